theorem dX5_init_0 : decode cX5_init 0 = .ok (.aload_n 0, 1) := by decide +kernel
theorem dX5_init_1 : decode cX5_init 1 = .ok (.invokespecial 1, 3) := by decide +kernel
theorem dX5_init_4 : decode cX5_init 4 = .ok (.aload_n 0, 1) := by decide +kernel
theorem dX5_init_5 : decode cX5_init 5 = .ok (.sipush 160, 3) := by decide +kernel
theorem dX5_init_8 : decode cX5_init 8 = .ok (.newarray .int, 2) := by decide +kernel
theorem dX5_init_10 : decode cX5_init 10 = .ok (.putfield 7, 3) := by decide +kernel
theorem dX5_init_13 : decode cX5_init 13 = .ok (.aload_n 0, 1) := by decide +kernel
theorem dX5_init_14 : decode cX5_init 14 = .ok (.sipush 160, 3) := by decide +kernel
theorem dX5_init_17 : decode cX5_init 17 = .ok (.newarray .int, 2) := by decide +kernel
theorem dX5_init_19 : decode cX5_init 19 = .ok (.putfield 13, 3) := by decide +kernel
theorem dX5_init_22 : decode cX5_init 22 = .ok (.aload_n 0, 1) := by decide +kernel
theorem dX5_init_23 : decode cX5_init 23 = .ok (.sipush 960, 3) := by decide +kernel
theorem dX5_init_26 : decode cX5_init 26 = .ok (.newarray .int, 2) := by decide +kernel
theorem dX5_init_28 : decode cX5_init 28 = .ok (.putfield 16, 3) := by decide +kernel
theorem dX5_init_31 : decode cX5_init 31 = .ok (.aload_n 0, 1) := by decide +kernel
theorem dX5_init_32 : decode cX5_init 32 = .ok (.sipush 320, 3) := by decide +kernel
theorem dX5_init_35 : decode cX5_init 35 = .ok (.newarray .int, 2) := by decide +kernel
theorem dX5_init_37 : decode cX5_init 37 = .ok (.putfield 19, 3) := by decide +kernel
theorem dX5_init_40 : decode cX5_init 40 = .ok (.aload_n 0, 1) := by decide +kernel
theorem dX5_init_41 : decode cX5_init 41 = .ok (.iconst 2, 1) := by decide +kernel
theorem dX5_init_42 : decode cX5_init 42 = .ok (.newarray .int, 2) := by decide +kernel
theorem dX5_init_44 : decode cX5_init 44 = .ok (.putfield 22, 3) := by decide +kernel
theorem dX5_init_47 : decode cX5_init 47 = .ok (.aload_n 0, 1) := by decide +kernel
theorem dX5_init_48 : decode cX5_init 48 = .ok (.bipush 60, 2) := by decide +kernel
theorem dX5_init_50 : decode cX5_init 50 = .ok (.newarray .int, 2) := by decide +kernel
theorem dX5_init_52 : decode cX5_init 52 = .ok (.putfield 25, 3) := by decide +kernel
theorem dX5_init_55 : decode cX5_init 55 = .ok (.aload_n 0, 1) := by decide +kernel
theorem dX5_init_56 : decode cX5_init 56 = .ok (.getfield 7, 3) := by decide +kernel
theorem dX5_init_59 : decode cX5_init 59 = .ok (.iconst 0, 1) := by decide +kernel
theorem dX5_init_60 : decode cX5_init 60 = .ok (.iconst 3, 1) := by decide +kernel
theorem dX5_init_61 : decode cX5_init 61 = .ok (.iastore, 1) := by decide +kernel
theorem dX5_init_62 : decode cX5_init 62 = .ok (.aload_n 0, 1) := by decide +kernel
theorem dX5_init_63 : decode cX5_init 63 = .ok (.getfield 7, 3) := by decide +kernel
theorem dX5_init_66 : decode cX5_init 66 = .ok (.iconst 1, 1) := by decide +kernel
theorem dX5_init_67 : decode cX5_init 67 = .ok (.iconst 2, 1) := by decide +kernel
theorem dX5_init_68 : decode cX5_init 68 = .ok (.iastore, 1) := by decide +kernel
theorem dX5_init_69 : decode cX5_init 69 = .ok (.aload_n 0, 1) := by decide +kernel
theorem dX5_init_70 : decode cX5_init 70 = .ok (.getfield 7, 3) := by decide +kernel
theorem dX5_init_73 : decode cX5_init 73 = .ok (.iconst 2, 1) := by decide +kernel
theorem dX5_init_74 : decode cX5_init 74 = .ok (.iconst 2, 1) := by decide +kernel
theorem dX5_init_75 : decode cX5_init 75 = .ok (.iastore, 1) := by decide +kernel
theorem dX5_init_76 : decode cX5_init 76 = .ok (.aload_n 0, 1) := by decide +kernel
theorem dX5_init_77 : decode cX5_init 77 = .ok (.getfield 7, 3) := by decide +kernel
theorem dX5_init_80 : decode cX5_init 80 = .ok (.iconst 3, 1) := by decide +kernel
theorem dX5_init_81 : decode cX5_init 81 = .ok (.iconst 4, 1) := by decide +kernel
theorem dX5_init_82 : decode cX5_init 82 = .ok (.iastore, 1) := by decide +kernel
theorem dX5_init_83 : decode cX5_init 83 = .ok (.aload_n 0, 1) := by decide +kernel
theorem dX5_init_84 : decode cX5_init 84 = .ok (.getfield 7, 3) := by decide +kernel
theorem dX5_init_87 : decode cX5_init 87 = .ok (.iconst 4, 1) := by decide +kernel
theorem dX5_init_88 : decode cX5_init 88 = .ok (.bipush 6, 2) := by decide +kernel
theorem dX5_init_90 : decode cX5_init 90 = .ok (.iastore, 1) := by decide +kernel
theorem dX5_init_91 : decode cX5_init 91 = .ok (.aload_n 0, 1) := by decide +kernel
theorem dX5_init_92 : decode cX5_init 92 = .ok (.getfield 7, 3) := by decide +kernel
theorem dX5_init_95 : decode cX5_init 95 = .ok (.iconst 5, 1) := by decide +kernel
theorem dX5_init_96 : decode cX5_init 96 = .ok (.bipush 20, 2) := by decide +kernel
theorem dX5_init_98 : decode cX5_init 98 = .ok (.iastore, 1) := by decide +kernel
theorem dX5_init_99 : decode cX5_init 99 = .ok (.aload_n 0, 1) := by decide +kernel
theorem dX5_init_100 : decode cX5_init 100 = .ok (.getfield 7, 3) := by decide +kernel
theorem dX5_init_103 : decode cX5_init 103 = .ok (.bipush 6, 2) := by decide +kernel
theorem dX5_init_105 : decode cX5_init 105 = .ok (.iconst 1, 1) := by decide +kernel
theorem dX5_init_106 : decode cX5_init 106 = .ok (.iastore, 1) := by decide +kernel
theorem dX5_init_107 : decode cX5_init 107 = .ok (.aload_n 0, 1) := by decide +kernel
theorem dX5_init_108 : decode cX5_init 108 = .ok (.getfield 7, 3) := by decide +kernel
theorem dX5_init_111 : decode cX5_init 111 = .ok (.bipush 7, 2) := by decide +kernel
theorem dX5_init_113 : decode cX5_init 113 = .ok (.iconst 2, 1) := by decide +kernel
theorem dX5_init_114 : decode cX5_init 114 = .ok (.iastore, 1) := by decide +kernel
theorem dX5_init_115 : decode cX5_init 115 = .ok (.aload_n 0, 1) := by decide +kernel
theorem dX5_init_116 : decode cX5_init 116 = .ok (.getfield 7, 3) := by decide +kernel
theorem dX5_init_119 : decode cX5_init 119 = .ok (.bipush 18, 2) := by decide +kernel
theorem dX5_init_121 : decode cX5_init 121 = .ok (.bipush 20, 2) := by decide +kernel
theorem dX5_init_123 : decode cX5_init 123 = .ok (.iastore, 1) := by decide +kernel
theorem dX5_init_124 : decode cX5_init 124 = .ok (.return_, 1) := by decide +kernel
theorem dX5_in_0 : decode cX5_in 0 = .ok (.lload_n 0, 1) := by decide +kernel
theorem dX5_in_1 : decode cX5_in 1 = .ok (.lload_n 2, 1) := by decide +kernel
theorem dX5_in_2 : decode cX5_in 2 = .ok (.lcmp, 1) := by decide +kernel
theorem dX5_in_3 : decode cX5_in 3 = .ok (.ifCond .lt 14, 3) := by decide +kernel
theorem dX5_in_6 : decode cX5_in 6 = .ok (.lload_n 0, 1) := by decide +kernel
theorem dX5_in_7 : decode cX5_in 7 = .ok (.lload 4, 2) := by decide +kernel
theorem dX5_in_9 : decode cX5_in 9 = .ok (.lcmp, 1) := by decide +kernel
theorem dX5_in_10 : decode cX5_in 10 = .ok (.ifCond .gt 7, 3) := by decide +kernel
theorem dX5_in_13 : decode cX5_in 13 = .ok (.iconst 1, 1) := by decide +kernel
theorem dX5_in_14 : decode cX5_in 14 = .ok (.goto 4, 3) := by decide +kernel
theorem dX5_in_17 : decode cX5_in 17 = .ok (.iconst 0, 1) := by decide +kernel
theorem dX5_in_18 : decode cX5_in 18 = .ok (.ireturn, 1) := by decide +kernel
theorem dX5_keep_0 : decode cX5_keep 0 = .ok (.iconst 0, 1) := by decide +kernel
theorem dX5_keep_1 : decode cX5_keep 1 = .ok (.istore_n 1, 1) := by decide +kernel
theorem dX5_keep_2 : decode cX5_keep 2 = .ok (.iload_n 1, 1) := by decide +kernel
theorem dX5_keep_3 : decode cX5_keep 3 = .ok (.sipush 160, 3) := by decide +kernel
theorem dX5_keep_6 : decode cX5_keep 6 = .ok (.if_icmp .ge 21, 3) := by decide +kernel
theorem dX5_keep_9 : decode cX5_keep 9 = .ok (.aload_n 0, 1) := by decide +kernel
theorem dX5_keep_10 : decode cX5_keep 10 = .ok (.getfield 13, 3) := by decide +kernel
theorem dX5_keep_13 : decode cX5_keep 13 = .ok (.iload_n 1, 1) := by decide +kernel
theorem dX5_keep_14 : decode cX5_keep 14 = .ok (.aload_n 0, 1) := by decide +kernel
theorem dX5_keep_15 : decode cX5_keep 15 = .ok (.getfield 7, 3) := by decide +kernel
theorem dX5_keep_18 : decode cX5_keep 18 = .ok (.iload_n 1, 1) := by decide +kernel
theorem dX5_keep_19 : decode cX5_keep 19 = .ok (.iaload, 1) := by decide +kernel
theorem dX5_keep_20 : decode cX5_keep 20 = .ok (.iastore, 1) := by decide +kernel
theorem dX5_keep_21 : decode cX5_keep 21 = .ok (.iinc 1 1, 3) := by decide +kernel
theorem dX5_keep_24 : decode cX5_keep 24 = .ok (.goto (-22), 3) := by decide +kernel
theorem dX5_keep_27 : decode cX5_keep 27 = .ok (.return_, 1) := by decide +kernel
theorem dX5_giveBack_0 : decode cX5_giveBack 0 = .ok (.iconst 0, 1) := by decide +kernel
theorem dX5_giveBack_1 : decode cX5_giveBack 1 = .ok (.istore_n 1, 1) := by decide +kernel
theorem dX5_giveBack_2 : decode cX5_giveBack 2 = .ok (.iload_n 1, 1) := by decide +kernel
theorem dX5_giveBack_3 : decode cX5_giveBack 3 = .ok (.sipush 160, 3) := by decide +kernel
theorem dX5_giveBack_6 : decode cX5_giveBack 6 = .ok (.if_icmp .ge 21, 3) := by decide +kernel
theorem dX5_giveBack_9 : decode cX5_giveBack 9 = .ok (.aload_n 0, 1) := by decide +kernel
theorem dX5_giveBack_10 : decode cX5_giveBack 10 = .ok (.getfield 7, 3) := by decide +kernel
theorem dX5_giveBack_13 : decode cX5_giveBack 13 = .ok (.iload_n 1, 1) := by decide +kernel
theorem dX5_giveBack_14 : decode cX5_giveBack 14 = .ok (.aload_n 0, 1) := by decide +kernel
theorem dX5_giveBack_15 : decode cX5_giveBack 15 = .ok (.getfield 13, 3) := by decide +kernel
theorem dX5_giveBack_18 : decode cX5_giveBack 18 = .ok (.iload_n 1, 1) := by decide +kernel
theorem dX5_giveBack_19 : decode cX5_giveBack 19 = .ok (.iaload, 1) := by decide +kernel
theorem dX5_giveBack_20 : decode cX5_giveBack 20 = .ok (.iastore, 1) := by decide +kernel
theorem dX5_giveBack_21 : decode cX5_giveBack 21 = .ok (.iinc 1 1, 3) := by decide +kernel
theorem dX5_giveBack_24 : decode cX5_giveBack 24 = .ok (.goto (-22), 3) := by decide +kernel
theorem dX5_giveBack_27 : decode cX5_giveBack 27 = .ok (.return_, 1) := by decide +kernel
theorem dX5_changed_0 : decode cX5_changed 0 = .ok (.iload_n 1, 1) := by decide +kernel
theorem dX5_changed_1 : decode cX5_changed 1 = .ok (.ifCond .ge 5, 3) := by decide +kernel
theorem dX5_changed_4 : decode cX5_changed 4 = .ok (.iload_n 1, 1) := by decide +kernel
theorem dX5_changed_5 : decode cX5_changed 5 = .ok (.ireturn, 1) := by decide +kernel
theorem dX5_changed_6 : decode cX5_changed 6 = .ok (.aload_n 0, 1) := by decide +kernel
theorem dX5_changed_7 : decode cX5_changed 7 = .ok (.getfield 28, 3) := by decide +kernel
theorem dX5_changed_10 : decode cX5_changed 10 = .ok (.bipush 6, 2) := by decide +kernel
theorem dX5_changed_12 : decode cX5_changed 12 = .ok (.if_icmp .ne 44, 3) := by decide +kernel
theorem dX5_changed_15 : decode cX5_changed 15 = .ok (.iconst 0, 1) := by decide +kernel
theorem dX5_changed_16 : decode cX5_changed 16 = .ok (.istore_n 2, 1) := by decide +kernel
theorem dX5_changed_17 : decode cX5_changed 17 = .ok (.iload_n 2, 1) := by decide +kernel
theorem dX5_changed_18 : decode cX5_changed 18 = .ok (.sipush 800, 3) := by decide +kernel
theorem dX5_changed_21 : decode cX5_changed 21 = .ok (.if_icmp .ge 25, 3) := by decide +kernel
theorem dX5_changed_24 : decode cX5_changed 24 = .ok (.aload_n 0, 1) := by decide +kernel
theorem dX5_changed_25 : decode cX5_changed 25 = .ok (.getfield 16, 3) := by decide +kernel
theorem dX5_changed_28 : decode cX5_changed 28 = .ok (.iload_n 2, 1) := by decide +kernel
theorem dX5_changed_29 : decode cX5_changed 29 = .ok (.aload_n 0, 1) := by decide +kernel
theorem dX5_changed_30 : decode cX5_changed 30 = .ok (.getfield 16, 3) := by decide +kernel
theorem dX5_changed_33 : decode cX5_changed 33 = .ok (.iload_n 2, 1) := by decide +kernel
theorem dX5_changed_34 : decode cX5_changed 34 = .ok (.sipush 160, 3) := by decide +kernel
theorem dX5_changed_37 : decode cX5_changed 37 = .ok (.iadd, 1) := by decide +kernel
theorem dX5_changed_38 : decode cX5_changed 38 = .ok (.iaload, 1) := by decide +kernel
theorem dX5_changed_39 : decode cX5_changed 39 = .ok (.iastore, 1) := by decide +kernel
theorem dX5_changed_40 : decode cX5_changed 40 = .ok (.iinc 2 1, 3) := by decide +kernel
theorem dX5_changed_43 : decode cX5_changed 43 = .ok (.goto (-26), 3) := by decide +kernel
theorem dX5_changed_46 : decode cX5_changed 46 = .ok (.aload_n 0, 1) := by decide +kernel
theorem dX5_changed_47 : decode cX5_changed 47 = .ok (.dup, 1) := by decide +kernel
theorem dX5_changed_48 : decode cX5_changed 48 = .ok (.getfield 28, 3) := by decide +kernel
theorem dX5_changed_51 : decode cX5_changed 51 = .ok (.iconst 1, 1) := by decide +kernel
theorem dX5_changed_52 : decode cX5_changed 52 = .ok (.isub, 1) := by decide +kernel
theorem dX5_changed_53 : decode cX5_changed 53 = .ok (.putfield 28, 3) := by decide +kernel
theorem dX5_changed_56 : decode cX5_changed 56 = .ok (.iconst 0, 1) := by decide +kernel
theorem dX5_changed_57 : decode cX5_changed 57 = .ok (.istore_n 2, 1) := by decide +kernel
theorem dX5_changed_58 : decode cX5_changed 58 = .ok (.iload_n 2, 1) := by decide +kernel
theorem dX5_changed_59 : decode cX5_changed 59 = .ok (.sipush 160, 3) := by decide +kernel
theorem dX5_changed_62 : decode cX5_changed 62 = .ok (.if_icmp .ge 30, 3) := by decide +kernel
theorem dX5_changed_65 : decode cX5_changed 65 = .ok (.aload_n 0, 1) := by decide +kernel
theorem dX5_changed_66 : decode cX5_changed 66 = .ok (.getfield 16, 3) := by decide +kernel
theorem dX5_changed_69 : decode cX5_changed 69 = .ok (.sipush 160, 3) := by decide +kernel
theorem dX5_changed_72 : decode cX5_changed 72 = .ok (.aload_n 0, 1) := by decide +kernel
theorem dX5_changed_73 : decode cX5_changed 73 = .ok (.getfield 28, 3) := by decide +kernel
theorem dX5_changed_76 : decode cX5_changed 76 = .ok (.imul, 1) := by decide +kernel
theorem dX5_changed_77 : decode cX5_changed 77 = .ok (.iload_n 2, 1) := by decide +kernel
theorem dX5_changed_78 : decode cX5_changed 78 = .ok (.iadd, 1) := by decide +kernel
theorem dX5_changed_79 : decode cX5_changed 79 = .ok (.aload_n 0, 1) := by decide +kernel
theorem dX5_changed_80 : decode cX5_changed 80 = .ok (.getfield 13, 3) := by decide +kernel
theorem dX5_changed_83 : decode cX5_changed 83 = .ok (.iload_n 2, 1) := by decide +kernel
theorem dX5_changed_84 : decode cX5_changed 84 = .ok (.iaload, 1) := by decide +kernel
theorem dX5_changed_85 : decode cX5_changed 85 = .ok (.iastore, 1) := by decide +kernel
theorem dX5_changed_86 : decode cX5_changed 86 = .ok (.iinc 2 1, 3) := by decide +kernel
theorem dX5_changed_89 : decode cX5_changed 89 = .ok (.goto (-31), 3) := by decide +kernel
theorem dX5_changed_92 : decode cX5_changed 92 = .ok (.aload_n 0, 1) := by decide +kernel
theorem dX5_changed_93 : decode cX5_changed 93 = .ok (.dup, 1) := by decide +kernel
theorem dX5_changed_94 : decode cX5_changed 94 = .ok (.getfield 28, 3) := by decide +kernel
theorem dX5_changed_97 : decode cX5_changed 97 = .ok (.iconst 1, 1) := by decide +kernel
theorem dX5_changed_98 : decode cX5_changed 98 = .ok (.iadd, 1) := by decide +kernel
theorem dX5_changed_99 : decode cX5_changed 99 = .ok (.putfield 28, 3) := by decide +kernel
theorem dX5_changed_102 : decode cX5_changed 102 = .ok (.iload_n 1, 1) := by decide +kernel
theorem dX5_changed_103 : decode cX5_changed 103 = .ok (.ireturn, 1) := by decide +kernel
theorem dX5_get_0 : decode cX5_get 0 = .ok (.aload_n 0, 1) := by decide +kernel
theorem dX5_get_1 : decode cX5_get 1 = .ok (.getfield 7, 3) := by decide +kernel
theorem dX5_get_4 : decode cX5_get 4 = .ok (.bipush 27, 2) := by decide +kernel
theorem dX5_get_6 : decode cX5_get 6 = .ok (.bipush 6, 2) := by decide +kernel
theorem dX5_get_8 : decode cX5_get 8 = .ok (.iload_n 1, 1) := by decide +kernel
theorem dX5_get_9 : decode cX5_get 9 = .ok (.imul, 1) := by decide +kernel
theorem dX5_get_10 : decode cX5_get 10 = .ok (.iadd, 1) := by decide +kernel
theorem dX5_get_11 : decode cX5_get 11 = .ok (.iload_n 2, 1) := by decide +kernel
theorem dX5_get_12 : decode cX5_get 12 = .ok (.iadd, 1) := by decide +kernel
theorem dX5_get_13 : decode cX5_get 13 = .ok (.iaload, 1) := by decide +kernel
theorem dX5_get_14 : decode cX5_get 14 = .ok (.ireturn, 1) := by decide +kernel
theorem dX5_put_0 : decode cX5_put 0 = .ok (.aload_n 0, 1) := by decide +kernel
theorem dX5_put_1 : decode cX5_put 1 = .ok (.getfield 7, 3) := by decide +kernel
theorem dX5_put_4 : decode cX5_put 4 = .ok (.bipush 27, 2) := by decide +kernel
theorem dX5_put_6 : decode cX5_put 6 = .ok (.bipush 6, 2) := by decide +kernel
theorem dX5_put_8 : decode cX5_put 8 = .ok (.iload_n 1, 1) := by decide +kernel
theorem dX5_put_9 : decode cX5_put 9 = .ok (.imul, 1) := by decide +kernel
theorem dX5_put_10 : decode cX5_put 10 = .ok (.iadd, 1) := by decide +kernel
theorem dX5_put_11 : decode cX5_put 11 = .ok (.iload_n 2, 1) := by decide +kernel
theorem dX5_put_12 : decode cX5_put 12 = .ok (.iadd, 1) := by decide +kernel
theorem dX5_put_13 : decode cX5_put 13 = .ok (.iload_n 3, 1) := by decide +kernel
theorem dX5_put_14 : decode cX5_put 14 = .ok (.iastore, 1) := by decide +kernel
theorem dX5_put_15 : decode cX5_put 15 = .ok (.return_, 1) := by decide +kernel
set_option maxRecDepth 20000 in
theorem ggX5_back_X5_get : GoodIn wsX5_back wsX5_get := goodIn_r _ [5, 6, 7, 8, 9, 10, 11, 12, 13, 14, 15, 16, 17, 18] (by decide +kernel) (by decide +kernel)
set_option maxRecDepth 20000 in
theorem gX5_back_X5_get : GoodIn wsX5_back (wsV RX5 32 RX5 yX5_get wsX5_get) := goodIn_app (goodIn_of _ (by decide +kernel)) ggX5_back_X5_get
theorem dX5_back_0 : decode cX5_back 0 = .ok (.aload_n 0, 1) := by decide +kernel
theorem dX5_back_1 : decode cX5_back 1 = .ok (.iload_n 1, 1) := by decide +kernel
theorem dX5_back_2 : decode cX5_back 2 = .ok (.iconst 0, 1) := by decide +kernel
theorem dX5_back_3 : decode cX5_back 3 = .ok (.invokevirtual 32, 3) := by decide +kernel
theorem dX5_back_6 : decode cX5_back 6 = .ok (.aload_n 0, 1) := by decide +kernel
theorem dX5_back_7 : decode cX5_back 7 = .ok (.iload_n 1, 1) := by decide +kernel
theorem dX5_back_8 : decode cX5_back 8 = .ok (.iconst 1, 1) := by decide +kernel
theorem dX5_back_9 : decode cX5_back 9 = .ok (.invokevirtual 32, 3) := by decide +kernel
theorem dX5_back_12 : decode cX5_back 12 = .ok (.isub, 1) := by decide +kernel
theorem dX5_back_13 : decode cX5_back 13 = .ok (.ireturn, 1) := by decide +kernel
set_option maxRecDepth 20000 in
theorem ggX5_isBox_X5_in : GoodIn wsX5_isBox wsX5_in := goodIn_r _ [5] (by decide +kernel) (by decide +kernel)
set_option maxRecDepth 20000 in
theorem gX5_isBox_X5_in : GoodIn wsX5_isBox (va_wsS RX5 36 yX5_in wsX5_in) := goodIn_app (goodIn_of _ (by decide +kernel)) ggX5_isBox_X5_in
theorem dX5_isBox_0 : decode cX5_isBox 0 = .ok (.iload_n 1, 1) := by decide +kernel
theorem dX5_isBox_1 : decode cX5_isBox 1 = .ok (.i2l, 1) := by decide +kernel
theorem dX5_isBox_2 : decode cX5_isBox 2 = .ok (.lconst 0, 1) := by decide +kernel
theorem dX5_isBox_3 : decode cX5_isBox 3 = .ok (.aload_n 0, 1) := by decide +kernel
theorem dX5_isBox_4 : decode cX5_isBox 4 = .ok (.getfield 7, 3) := by decide +kernel
theorem dX5_isBox_7 : decode cX5_isBox 7 = .ok (.bipush 9, 2) := by decide +kernel
theorem dX5_isBox_9 : decode cX5_isBox 9 = .ok (.iaload, 1) := by decide +kernel
theorem dX5_isBox_10 : decode cX5_isBox 10 = .ok (.i2l, 1) := by decide +kernel
theorem dX5_isBox_11 : decode cX5_isBox 11 = .ok (.lconst 1, 1) := by decide +kernel
theorem dX5_isBox_12 : decode cX5_isBox 12 = .ok (.lsub, 1) := by decide +kernel
theorem dX5_isBox_13 : decode cX5_isBox 13 = .ok (.invokestatic 36, 3) := by decide +kernel
theorem dX5_isBox_16 : decode cX5_isBox 16 = .ok (.ireturn, 1) := by decide +kernel
set_option maxRecDepth 20000 in
theorem ggX5_isLength_X5_in : GoodIn wsX5_isLength wsX5_in := goodIn_r _ [6] (by decide +kernel) (by decide +kernel)
set_option maxRecDepth 20000 in
theorem gX5_isLength_X5_in : GoodIn wsX5_isLength (va_wsS RX5 36 yX5_in wsX5_in) := goodIn_app (goodIn_of _ (by decide +kernel)) ggX5_isLength_X5_in
theorem dX5_isLength_0 : decode cX5_isLength 0 = .ok (.iload_n 0, 1) := by decide +kernel
theorem dX5_isLength_1 : decode cX5_isLength 1 = .ok (.i2l, 1) := by decide +kernel
theorem dX5_isLength_2 : decode cX5_isLength 2 = .ok (.ldc2_w 40, 3) := by decide +kernel
theorem dX5_isLength_5 : decode cX5_isLength 5 = .ok (.ldc2_w 42, 3) := by decide +kernel
theorem dX5_isLength_8 : decode cX5_isLength 8 = .ok (.invokestatic 36, 3) := by decide +kernel
theorem dX5_isLength_11 : decode cX5_isLength 11 = .ok (.ireturn, 1) := by decide +kernel
theorem dX5_takesOut_0 : decode cX5_takesOut 0 = .ok (.iload_n 2, 1) := by decide +kernel
theorem dX5_takesOut_1 : decode cX5_takesOut 1 = .ok (.iload 4, 2) := by decide +kernel
theorem dX5_takesOut_3 : decode cX5_takesOut 3 = .ok (.imul, 1) := by decide +kernel
theorem dX5_takesOut_4 : decode cX5_takesOut 4 = .ok (.istore 5, 2) := by decide +kernel
theorem dX5_takesOut_6 : decode cX5_takesOut 6 = .ok (.iload 5, 2) := by decide +kernel
theorem dX5_takesOut_8 : decode cX5_takesOut 8 = .ok (.iload_n 2, 1) := by decide +kernel
theorem dX5_takesOut_9 : decode cX5_takesOut 9 = .ok (.iload_n 3, 1) := by decide +kernel
theorem dX5_takesOut_10 : decode cX5_takesOut 10 = .ok (.iconst 1, 1) := by decide +kernel
theorem dX5_takesOut_11 : decode cX5_takesOut 11 = .ok (.isub, 1) := by decide +kernel
theorem dX5_takesOut_12 : decode cX5_takesOut 12 = .ok (.imul, 1) := by decide +kernel
theorem dX5_takesOut_13 : decode cX5_takesOut 13 = .ok (.if_icmp .ge 29, 3) := by decide +kernel
theorem dX5_takesOut_16 : decode cX5_takesOut 16 = .ok (.aload_n 0, 1) := by decide +kernel
theorem dX5_takesOut_17 : decode cX5_takesOut 17 = .ok (.getfield 7, 3) := by decide +kernel
theorem dX5_takesOut_20 : decode cX5_takesOut 20 = .ok (.iload_n 1, 1) := by decide +kernel
theorem dX5_takesOut_21 : decode cX5_takesOut 21 = .ok (.iload 5, 2) := by decide +kernel
theorem dX5_takesOut_23 : decode cX5_takesOut 23 = .ok (.iadd, 1) := by decide +kernel
theorem dX5_takesOut_24 : decode cX5_takesOut 24 = .ok (.aload_n 0, 1) := by decide +kernel
theorem dX5_takesOut_25 : decode cX5_takesOut 25 = .ok (.getfield 7, 3) := by decide +kernel
theorem dX5_takesOut_28 : decode cX5_takesOut 28 = .ok (.iload_n 1, 1) := by decide +kernel
theorem dX5_takesOut_29 : decode cX5_takesOut 29 = .ok (.iload 5, 2) := by decide +kernel
theorem dX5_takesOut_31 : decode cX5_takesOut 31 = .ok (.iadd, 1) := by decide +kernel
theorem dX5_takesOut_32 : decode cX5_takesOut 32 = .ok (.iload_n 2, 1) := by decide +kernel
theorem dX5_takesOut_33 : decode cX5_takesOut 33 = .ok (.iadd, 1) := by decide +kernel
theorem dX5_takesOut_34 : decode cX5_takesOut 34 = .ok (.iaload, 1) := by decide +kernel
theorem dX5_takesOut_35 : decode cX5_takesOut 35 = .ok (.iastore, 1) := by decide +kernel
theorem dX5_takesOut_36 : decode cX5_takesOut 36 = .ok (.iinc 5 1, 3) := by decide +kernel
theorem dX5_takesOut_39 : decode cX5_takesOut 39 = .ok (.goto (-33), 3) := by decide +kernel
theorem dX5_takesOut_42 : decode cX5_takesOut 42 = .ok (.return_, 1) := by decide +kernel
set_option maxRecDepth 20000 in
theorem ggX5_moves_X5_get : GoodIn wsX5_moves wsX5_get := goodIn_r _ [6, 1, 11, 12, 13, 14, 15, 16, 17, 18, 19, 20, 21, 22] (by decide +kernel) (by decide +kernel)
set_option maxRecDepth 20000 in
theorem gX5_moves_X5_get : GoodIn wsX5_moves (wsV RX5 32 RX5 yX5_get wsX5_get) := goodIn_app (goodIn_of _ (by decide +kernel)) ggX5_moves_X5_get
set_option maxRecDepth 20000 in
theorem ggX5_moves_X5_put : GoodIn wsX5_moves wsX5_put := goodIn_r _ [10, 1, 11, 12, 13, 14, 15, 16, 17, 18, 19, 20, 21, 22] (by decide +kernel) (by decide +kernel)
set_option maxRecDepth 20000 in
theorem gX5_moves_X5_put : GoodIn wsX5_moves (wsV RX5 44 RX5 yX5_put wsX5_put) := goodIn_app (goodIn_of _ (by decide +kernel)) ggX5_moves_X5_put
theorem dX5_moves_0 : decode cX5_moves 0 = .ok (.iconst 0, 1) := by decide +kernel
theorem dX5_moves_1 : decode cX5_moves 1 = .ok (.istore_n 1, 1) := by decide +kernel
theorem dX5_moves_2 : decode cX5_moves 2 = .ok (.iload_n 1, 1) := by decide +kernel
theorem dX5_moves_3 : decode cX5_moves 3 = .ok (.aload_n 0, 1) := by decide +kernel
theorem dX5_moves_4 : decode cX5_moves 4 = .ok (.getfield 7, 3) := by decide +kernel
theorem dX5_moves_7 : decode cX5_moves 7 = .ok (.bipush 9, 2) := by decide +kernel
theorem dX5_moves_9 : decode cX5_moves 9 = .ok (.iaload, 1) := by decide +kernel
theorem dX5_moves_10 : decode cX5_moves 10 = .ok (.if_icmp .ge 28, 3) := by decide +kernel
theorem dX5_moves_13 : decode cX5_moves 13 = .ok (.aload_n 0, 1) := by decide +kernel
theorem dX5_moves_14 : decode cX5_moves 14 = .ok (.iload_n 1, 1) := by decide +kernel
theorem dX5_moves_15 : decode cX5_moves 15 = .ok (.iconst 0, 1) := by decide +kernel
theorem dX5_moves_16 : decode cX5_moves 16 = .ok (.aload_n 0, 1) := by decide +kernel
theorem dX5_moves_17 : decode cX5_moves 17 = .ok (.iload_n 1, 1) := by decide +kernel
theorem dX5_moves_18 : decode cX5_moves 18 = .ok (.iconst 0, 1) := by decide +kernel
theorem dX5_moves_19 : decode cX5_moves 19 = .ok (.invokevirtual 32, 3) := by decide +kernel
theorem dX5_moves_22 : decode cX5_moves 22 = .ok (.aload_n 0, 1) := by decide +kernel
theorem dX5_moves_23 : decode cX5_moves 23 = .ok (.getfield 7, 3) := by decide +kernel
theorem dX5_moves_26 : decode cX5_moves 26 = .ok (.iconst 0, 1) := by decide +kernel
theorem dX5_moves_27 : decode cX5_moves 27 = .ok (.iaload, 1) := by decide +kernel
theorem dX5_moves_28 : decode cX5_moves 28 = .ok (.iadd, 1) := by decide +kernel
theorem dX5_moves_29 : decode cX5_moves 29 = .ok (.invokevirtual 44, 3) := by decide +kernel
theorem dX5_moves_32 : decode cX5_moves 32 = .ok (.iinc 1 1, 3) := by decide +kernel
theorem dX5_moves_35 : decode cX5_moves 35 = .ok (.goto (-33), 3) := by decide +kernel
theorem dX5_moves_38 : decode cX5_moves 38 = .ok (.iconst 4, 1) := by decide +kernel
theorem dX5_moves_39 : decode cX5_moves 39 = .ok (.istore_n 1, 1) := by decide +kernel
theorem dX5_moves_40 : decode cX5_moves 40 = .ok (.iload_n 1, 1) := by decide +kernel
theorem dX5_moves_41 : decode cX5_moves 41 = .ok (.ifCond .le 29, 3) := by decide +kernel
theorem dX5_moves_44 : decode cX5_moves 44 = .ok (.aload_n 0, 1) := by decide +kernel
theorem dX5_moves_45 : decode cX5_moves 45 = .ok (.getfield 7, 3) := by decide +kernel
theorem dX5_moves_48 : decode cX5_moves 48 = .ok (.bipush 22, 2) := by decide +kernel
theorem dX5_moves_50 : decode cX5_moves 50 = .ok (.iload_n 1, 1) := by decide +kernel
theorem dX5_moves_51 : decode cX5_moves 51 = .ok (.iadd, 1) := by decide +kernel
theorem dX5_moves_52 : decode cX5_moves 52 = .ok (.aload_n 0, 1) := by decide +kernel
theorem dX5_moves_53 : decode cX5_moves 53 = .ok (.getfield 7, 3) := by decide +kernel
theorem dX5_moves_56 : decode cX5_moves 56 = .ok (.bipush 22, 2) := by decide +kernel
theorem dX5_moves_58 : decode cX5_moves 58 = .ok (.iload_n 1, 1) := by decide +kernel
theorem dX5_moves_59 : decode cX5_moves 59 = .ok (.iadd, 1) := by decide +kernel
theorem dX5_moves_60 : decode cX5_moves 60 = .ok (.iconst 1, 1) := by decide +kernel
theorem dX5_moves_61 : decode cX5_moves 61 = .ok (.isub, 1) := by decide +kernel
theorem dX5_moves_62 : decode cX5_moves 62 = .ok (.iaload, 1) := by decide +kernel
theorem dX5_moves_63 : decode cX5_moves 63 = .ok (.iastore, 1) := by decide +kernel
theorem dX5_moves_64 : decode cX5_moves 64 = .ok (.iinc 1 (-1), 3) := by decide +kernel
theorem dX5_moves_67 : decode cX5_moves 67 = .ok (.goto (-27), 3) := by decide +kernel
theorem dX5_moves_70 : decode cX5_moves 70 = .ok (.aload_n 0, 1) := by decide +kernel
theorem dX5_moves_71 : decode cX5_moves 71 = .ok (.getfield 7, 3) := by decide +kernel
theorem dX5_moves_74 : decode cX5_moves 74 = .ok (.bipush 22, 2) := by decide +kernel
theorem dX5_moves_76 : decode cX5_moves 76 = .ok (.aload_n 0, 1) := by decide +kernel
theorem dX5_moves_77 : decode cX5_moves 77 = .ok (.getfield 7, 3) := by decide +kernel
theorem dX5_moves_80 : decode cX5_moves 80 = .ok (.iconst 0, 1) := by decide +kernel
theorem dX5_moves_81 : decode cX5_moves 81 = .ok (.iaload, 1) := by decide +kernel
theorem dX5_moves_82 : decode cX5_moves 82 = .ok (.iastore, 1) := by decide +kernel
theorem dX5_moves_83 : decode cX5_moves 83 = .ok (.aload_n 0, 1) := by decide +kernel
theorem dX5_moves_84 : decode cX5_moves 84 = .ok (.getfield 7, 3) := by decide +kernel
theorem dX5_moves_87 : decode cX5_moves 87 = .ok (.bipush 21, 2) := by decide +kernel
theorem dX5_moves_89 : decode cX5_moves 89 = .ok (.dup2, 1) := by decide +kernel
theorem dX5_moves_90 : decode cX5_moves 90 = .ok (.iaload, 1) := by decide +kernel
theorem dX5_moves_91 : decode cX5_moves 91 = .ok (.aload_n 0, 1) := by decide +kernel
theorem dX5_moves_92 : decode cX5_moves 92 = .ok (.getfield 7, 3) := by decide +kernel
theorem dX5_moves_95 : decode cX5_moves 95 = .ok (.iconst 0, 1) := by decide +kernel
theorem dX5_moves_96 : decode cX5_moves 96 = .ok (.iaload, 1) := by decide +kernel
theorem dX5_moves_97 : decode cX5_moves 97 = .ok (.iadd, 1) := by decide +kernel
theorem dX5_moves_98 : decode cX5_moves 98 = .ok (.iastore, 1) := by decide +kernel
theorem dX5_moves_99 : decode cX5_moves 99 = .ok (.return_, 1) := by decide +kernel
set_option maxRecDepth 20000 in
theorem ggX5_sees_X5_get : GoodIn wsX5_sees wsX5_get := goodIn_r _ [6, 1, 11, 12, 13, 14, 15, 16, 17, 18, 19, 20, 21, 22] (by decide +kernel) (by decide +kernel)
set_option maxRecDepth 20000 in
theorem gX5_sees_X5_get : GoodIn wsX5_sees (wsV RX5 32 RX5 yX5_get wsX5_get) := goodIn_app (goodIn_of _ (by decide +kernel)) ggX5_sees_X5_get
set_option maxRecDepth 20000 in
theorem ggX5_sees_X5_put : GoodIn wsX5_sees wsX5_put := goodIn_r _ [10, 1, 11, 12, 13, 14, 15, 16, 17, 18, 19, 20, 21, 22] (by decide +kernel) (by decide +kernel)
set_option maxRecDepth 20000 in
theorem gX5_sees_X5_put : GoodIn wsX5_sees (wsV RX5 44 RX5 yX5_put wsX5_put) := goodIn_app (goodIn_of _ (by decide +kernel)) ggX5_sees_X5_put
theorem dX5_sees_0 : decode cX5_sees 0 = .ok (.iconst 0, 1) := by decide +kernel
theorem dX5_sees_1 : decode cX5_sees 1 = .ok (.istore_n 1, 1) := by decide +kernel
theorem dX5_sees_2 : decode cX5_sees 2 = .ok (.iload_n 1, 1) := by decide +kernel
theorem dX5_sees_3 : decode cX5_sees 3 = .ok (.aload_n 0, 1) := by decide +kernel
theorem dX5_sees_4 : decode cX5_sees 4 = .ok (.getfield 7, 3) := by decide +kernel
theorem dX5_sees_7 : decode cX5_sees 7 = .ok (.bipush 9, 2) := by decide +kernel
theorem dX5_sees_9 : decode cX5_sees 9 = .ok (.iaload, 1) := by decide +kernel
theorem dX5_sees_10 : decode cX5_sees 10 = .ok (.if_icmp .ge 106, 3) := by decide +kernel
theorem dX5_sees_13 : decode cX5_sees 13 = .ok (.aload_n 0, 1) := by decide +kernel
theorem dX5_sees_14 : decode cX5_sees 14 = .ok (.iload_n 1, 1) := by decide +kernel
theorem dX5_sees_15 : decode cX5_sees 15 = .ok (.iconst 2, 1) := by decide +kernel
theorem dX5_sees_16 : decode cX5_sees 16 = .ok (.invokevirtual 32, 3) := by decide +kernel
theorem dX5_sees_19 : decode cX5_sees 19 = .ok (.ifCond .ne 91, 3) := by decide +kernel
theorem dX5_sees_22 : decode cX5_sees 22 = .ok (.aload_n 0, 1) := by decide +kernel
theorem dX5_sees_23 : decode cX5_sees 23 = .ok (.iload_n 1, 1) := by decide +kernel
theorem dX5_sees_24 : decode cX5_sees 24 = .ok (.iconst 0, 1) := by decide +kernel
theorem dX5_sees_25 : decode cX5_sees 25 = .ok (.invokevirtual 32, 3) := by decide +kernel
theorem dX5_sees_28 : decode cX5_sees 28 = .ok (.bipush 20, 2) := by decide +kernel
theorem dX5_sees_30 : decode cX5_sees 30 = .ok (.if_icmp .lt 80, 3) := by decide +kernel
theorem dX5_sees_33 : decode cX5_sees 33 = .ok (.aload_n 0, 1) := by decide +kernel
theorem dX5_sees_34 : decode cX5_sees 34 = .ok (.iload_n 1, 1) := by decide +kernel
theorem dX5_sees_35 : decode cX5_sees 35 = .ok (.iconst 2, 1) := by decide +kernel
theorem dX5_sees_36 : decode cX5_sees 36 = .ok (.iconst 1, 1) := by decide +kernel
theorem dX5_sees_37 : decode cX5_sees 37 = .ok (.invokevirtual 44, 3) := by decide +kernel
theorem dX5_sees_40 : decode cX5_sees 40 = .ok (.aload_n 0, 1) := by decide +kernel
theorem dX5_sees_41 : decode cX5_sees 41 = .ok (.getfield 7, 3) := by decide +kernel
theorem dX5_sees_44 : decode cX5_sees 44 = .ok (.bipush 75, 2) := by decide +kernel
theorem dX5_sees_46 : decode cX5_sees 46 = .ok (.iconst 2, 1) := by decide +kernel
theorem dX5_sees_47 : decode cX5_sees 47 = .ok (.aload_n 0, 1) := by decide +kernel
theorem dX5_sees_48 : decode cX5_sees 48 = .ok (.getfield 7, 3) := by decide +kernel
theorem dX5_sees_51 : decode cX5_sees 51 = .ok (.bipush 19, 2) := by decide +kernel
theorem dX5_sees_53 : decode cX5_sees 53 = .ok (.iaload, 1) := by decide +kernel
theorem dX5_sees_54 : decode cX5_sees 54 = .ok (.imul, 1) := by decide +kernel
theorem dX5_sees_55 : decode cX5_sees 55 = .ok (.iadd, 1) := by decide +kernel
theorem dX5_sees_56 : decode cX5_sees 56 = .ok (.aload_n 0, 1) := by decide +kernel
theorem dX5_sees_57 : decode cX5_sees 57 = .ok (.getfield 7, 3) := by decide +kernel
theorem dX5_sees_60 : decode cX5_sees 60 = .ok (.bipush 8, 2) := by decide +kernel
theorem dX5_sees_62 : decode cX5_sees 62 = .ok (.iaload, 1) := by decide +kernel
theorem dX5_sees_63 : decode cX5_sees 63 = .ok (.aload_n 0, 1) := by decide +kernel
theorem dX5_sees_64 : decode cX5_sees 64 = .ok (.getfield 7, 3) := by decide +kernel
theorem dX5_sees_67 : decode cX5_sees 67 = .ok (.iconst 1, 1) := by decide +kernel
theorem dX5_sees_68 : decode cX5_sees 68 = .ok (.iaload, 1) := by decide +kernel
theorem dX5_sees_69 : decode cX5_sees 69 = .ok (.iadd, 1) := by decide +kernel
theorem dX5_sees_70 : decode cX5_sees 70 = .ok (.iastore, 1) := by decide +kernel
theorem dX5_sees_71 : decode cX5_sees 71 = .ok (.aload_n 0, 1) := by decide +kernel
theorem dX5_sees_72 : decode cX5_sees 72 = .ok (.getfield 7, 3) := by decide +kernel
theorem dX5_sees_75 : decode cX5_sees 75 = .ok (.bipush 75, 2) := by decide +kernel
theorem dX5_sees_77 : decode cX5_sees 77 = .ok (.iconst 2, 1) := by decide +kernel
theorem dX5_sees_78 : decode cX5_sees 78 = .ok (.aload_n 0, 1) := by decide +kernel
theorem dX5_sees_79 : decode cX5_sees 79 = .ok (.getfield 7, 3) := by decide +kernel
theorem dX5_sees_82 : decode cX5_sees 82 = .ok (.bipush 19, 2) := by decide +kernel
theorem dX5_sees_84 : decode cX5_sees 84 = .ok (.iaload, 1) := by decide +kernel
theorem dX5_sees_85 : decode cX5_sees 85 = .ok (.imul, 1) := by decide +kernel
theorem dX5_sees_86 : decode cX5_sees 86 = .ok (.iadd, 1) := by decide +kernel
theorem dX5_sees_87 : decode cX5_sees 87 = .ok (.iconst 1, 1) := by decide +kernel
theorem dX5_sees_88 : decode cX5_sees 88 = .ok (.iadd, 1) := by decide +kernel
theorem dX5_sees_89 : decode cX5_sees 89 = .ok (.aload_n 0, 1) := by decide +kernel
theorem dX5_sees_90 : decode cX5_sees 90 = .ok (.iload_n 1, 1) := by decide +kernel
theorem dX5_sees_91 : decode cX5_sees 91 = .ok (.iconst 0, 1) := by decide +kernel
theorem dX5_sees_92 : decode cX5_sees 92 = .ok (.invokevirtual 32, 3) := by decide +kernel
theorem dX5_sees_95 : decode cX5_sees 95 = .ok (.bipush 20, 2) := by decide +kernel
theorem dX5_sees_97 : decode cX5_sees 97 = .ok (.isub, 1) := by decide +kernel
theorem dX5_sees_98 : decode cX5_sees 98 = .ok (.iastore, 1) := by decide +kernel
theorem dX5_sees_99 : decode cX5_sees 99 = .ok (.aload_n 0, 1) := by decide +kernel
theorem dX5_sees_100 : decode cX5_sees 100 = .ok (.getfield 7, 3) := by decide +kernel
theorem dX5_sees_103 : decode cX5_sees 103 = .ok (.bipush 19, 2) := by decide +kernel
theorem dX5_sees_105 : decode cX5_sees 105 = .ok (.dup2, 1) := by decide +kernel
theorem dX5_sees_106 : decode cX5_sees 106 = .ok (.iaload, 1) := by decide +kernel
theorem dX5_sees_107 : decode cX5_sees 107 = .ok (.iconst 1, 1) := by decide +kernel
theorem dX5_sees_108 : decode cX5_sees 108 = .ok (.iadd, 1) := by decide +kernel
theorem dX5_sees_109 : decode cX5_sees 109 = .ok (.iastore, 1) := by decide +kernel
theorem dX5_sees_110 : decode cX5_sees 110 = .ok (.iinc 1 1, 3) := by decide +kernel
theorem dX5_sees_113 : decode cX5_sees 113 = .ok (.goto (-111), 3) := by decide +kernel
theorem dX5_sees_116 : decode cX5_sees 116 = .ok (.return_, 1) := by decide +kernel
theorem dX5_guessedWay_0 : decode cX5_guessedWay 0 = .ok (.iconst 0, 1) := by decide +kernel
theorem dX5_guessedWay_1 : decode cX5_guessedWay 1 = .ok (.istore_n 1, 1) := by decide +kernel
theorem dX5_guessedWay_2 : decode cX5_guessedWay 2 = .ok (.iconst 0, 1) := by decide +kernel
theorem dX5_guessedWay_3 : decode cX5_guessedWay 3 = .ok (.istore_n 2, 1) := by decide +kernel
theorem dX5_guessedWay_4 : decode cX5_guessedWay 4 = .ok (.iload_n 2, 1) := by decide +kernel
theorem dX5_guessedWay_5 : decode cX5_guessedWay 5 = .ok (.aload_n 0, 1) := by decide +kernel
theorem dX5_guessedWay_6 : decode cX5_guessedWay 6 = .ok (.getfield 7, 3) := by decide +kernel
theorem dX5_guessedWay_9 : decode cX5_guessedWay 9 = .ok (.iconst 2, 1) := by decide +kernel
theorem dX5_guessedWay_10 : decode cX5_guessedWay 10 = .ok (.iaload, 1) := by decide +kernel
theorem dX5_guessedWay_11 : decode cX5_guessedWay 11 = .ok (.if_icmp .ge 21, 3) := by decide +kernel
theorem dX5_guessedWay_14 : decode cX5_guessedWay 14 = .ok (.iload_n 1, 1) := by decide +kernel
theorem dX5_guessedWay_15 : decode cX5_guessedWay 15 = .ok (.aload_n 0, 1) := by decide +kernel
theorem dX5_guessedWay_16 : decode cX5_guessedWay 16 = .ok (.getfield 7, 3) := by decide +kernel
theorem dX5_guessedWay_19 : decode cX5_guessedWay 19 = .ok (.bipush 22, 2) := by decide +kernel
theorem dX5_guessedWay_21 : decode cX5_guessedWay 21 = .ok (.iload_n 2, 1) := by decide +kernel
theorem dX5_guessedWay_22 : decode cX5_guessedWay 22 = .ok (.iadd, 1) := by decide +kernel
theorem dX5_guessedWay_23 : decode cX5_guessedWay 23 = .ok (.iaload, 1) := by decide +kernel
theorem dX5_guessedWay_24 : decode cX5_guessedWay 24 = .ok (.iadd, 1) := by decide +kernel
theorem dX5_guessedWay_25 : decode cX5_guessedWay 25 = .ok (.istore_n 1, 1) := by decide +kernel
theorem dX5_guessedWay_26 : decode cX5_guessedWay 26 = .ok (.iinc 2 1, 3) := by decide +kernel
theorem dX5_guessedWay_29 : decode cX5_guessedWay 29 = .ok (.goto (-25), 3) := by decide +kernel
theorem dX5_guessedWay_32 : decode cX5_guessedWay 32 = .ok (.iload_n 1, 1) := by decide +kernel
theorem dX5_guessedWay_33 : decode cX5_guessedWay 33 = .ok (.ireturn, 1) := by decide +kernel
set_option maxRecDepth 20000 in
theorem ggX5_plans_X5_guessedWay : GoodIn wsX5_plans wsX5_guessedWay := goodIn_r _ [6, 1, 11, 12, 13, 14, 15, 16, 17, 18, 19, 20, 21, 22] (by decide +kernel) (by decide +kernel)
set_option maxRecDepth 20000 in
theorem gX5_plans_X5_guessedWay : GoodIn wsX5_plans (wsV RX5 48 RX5 yX5_guessedWay wsX5_guessedWay) := goodIn_app (goodIn_of _ (by decide +kernel)) ggX5_plans_X5_guessedWay
set_option maxRecDepth 20000 in
theorem ggX5_plans_X5_takesOut : GoodIn wsX5_plans wsX5_takesOut := goodIn_r _ [10, 1, 11, 12, 13, 14, 15, 16, 17, 18, 19, 20, 21, 22] (by decide +kernel) (by decide +kernel)
set_option maxRecDepth 20000 in
theorem gX5_plans_X5_takesOut : GoodIn wsX5_plans (wsV RX5 52 RX5 yX5_takesOut wsX5_takesOut) := goodIn_app (goodIn_of _ (by decide +kernel)) ggX5_plans_X5_takesOut
theorem dX5_plans_0 : decode cX5_plans 0 = .ok (.iconst 0, 1) := by decide +kernel
theorem dX5_plans_1 : decode cX5_plans 1 = .ok (.istore_n 1, 1) := by decide +kernel
theorem dX5_plans_2 : decode cX5_plans 2 = .ok (.iload_n 1, 1) := by decide +kernel
theorem dX5_plans_3 : decode cX5_plans 3 = .ok (.aload_n 0, 1) := by decide +kernel
theorem dX5_plans_4 : decode cX5_plans 4 = .ok (.getfield 7, 3) := by decide +kernel
theorem dX5_plans_7 : decode cX5_plans 7 = .ok (.bipush 20, 2) := by decide +kernel
theorem dX5_plans_9 : decode cX5_plans 9 = .ok (.iaload, 1) := by decide +kernel
theorem dX5_plans_10 : decode cX5_plans 10 = .ok (.if_icmp .ge 28, 3) := by decide +kernel
theorem dX5_plans_13 : decode cX5_plans 13 = .ok (.aload_n 0, 1) := by decide +kernel
theorem dX5_plans_14 : decode cX5_plans 14 = .ok (.getfield 7, 3) := by decide +kernel
theorem dX5_plans_17 : decode cX5_plans 17 = .ok (.sipush 131, 3) := by decide +kernel
theorem dX5_plans_20 : decode cX5_plans 20 = .ok (.iload_n 1, 1) := by decide +kernel
theorem dX5_plans_21 : decode cX5_plans 21 = .ok (.iadd, 1) := by decide +kernel
theorem dX5_plans_22 : decode cX5_plans 22 = .ok (.dup2, 1) := by decide +kernel
theorem dX5_plans_23 : decode cX5_plans 23 = .ok (.iaload, 1) := by decide +kernel
theorem dX5_plans_24 : decode cX5_plans 24 = .ok (.aload_n 0, 1) := by decide +kernel
theorem dX5_plans_25 : decode cX5_plans 25 = .ok (.getfield 7, 3) := by decide +kernel
theorem dX5_plans_28 : decode cX5_plans 28 = .ok (.iconst 0, 1) := by decide +kernel
theorem dX5_plans_29 : decode cX5_plans 29 = .ok (.iaload, 1) := by decide +kernel
theorem dX5_plans_30 : decode cX5_plans 30 = .ok (.isub, 1) := by decide +kernel
theorem dX5_plans_31 : decode cX5_plans 31 = .ok (.iastore, 1) := by decide +kernel
theorem dX5_plans_32 : decode cX5_plans 32 = .ok (.iinc 1 1, 3) := by decide +kernel
theorem dX5_plans_35 : decode cX5_plans 35 = .ok (.goto (-33), 3) := by decide +kernel
theorem dX5_plans_38 : decode cX5_plans 38 = .ok (.iconst 0, 1) := by decide +kernel
theorem dX5_plans_39 : decode cX5_plans 39 = .ok (.istore_n 1, 1) := by decide +kernel
theorem dX5_plans_40 : decode cX5_plans 40 = .ok (.iload_n 1, 1) := by decide +kernel
theorem dX5_plans_41 : decode cX5_plans 41 = .ok (.aload_n 0, 1) := by decide +kernel
theorem dX5_plans_42 : decode cX5_plans 42 = .ok (.getfield 7, 3) := by decide +kernel
theorem dX5_plans_45 : decode cX5_plans 45 = .ok (.bipush 19, 2) := by decide +kernel
theorem dX5_plans_47 : decode cX5_plans 47 = .ok (.iaload, 1) := by decide +kernel
theorem dX5_plans_48 : decode cX5_plans 48 = .ok (.if_icmp .ge 114, 3) := by decide +kernel
theorem dX5_plans_51 : decode cX5_plans 51 = .ok (.aload_n 0, 1) := by decide +kernel
theorem dX5_plans_52 : decode cX5_plans 52 = .ok (.getfield 7, 3) := by decide +kernel
theorem dX5_plans_55 : decode cX5_plans 55 = .ok (.bipush 75, 2) := by decide +kernel
theorem dX5_plans_57 : decode cX5_plans 57 = .ok (.iconst 2, 1) := by decide +kernel
theorem dX5_plans_58 : decode cX5_plans 58 = .ok (.iload_n 1, 1) := by decide +kernel
theorem dX5_plans_59 : decode cX5_plans 59 = .ok (.imul, 1) := by decide +kernel
theorem dX5_plans_60 : decode cX5_plans 60 = .ok (.iadd, 1) := by decide +kernel
theorem dX5_plans_61 : decode cX5_plans 61 = .ok (.iaload, 1) := by decide +kernel
theorem dX5_plans_62 : decode cX5_plans 62 = .ok (.aload_n 0, 1) := by decide +kernel
theorem dX5_plans_63 : decode cX5_plans 63 = .ok (.getfield 7, 3) := by decide +kernel
theorem dX5_plans_66 : decode cX5_plans 66 = .ok (.bipush 8, 2) := by decide +kernel
theorem dX5_plans_68 : decode cX5_plans 68 = .ok (.iaload, 1) := by decide +kernel
theorem dX5_plans_69 : decode cX5_plans 69 = .ok (.if_icmp .gt 87, 3) := by decide +kernel
theorem dX5_plans_72 : decode cX5_plans 72 = .ok (.aload_n 0, 1) := by decide +kernel
theorem dX5_plans_73 : decode cX5_plans 73 = .ok (.getfield 7, 3) := by decide +kernel
theorem dX5_plans_76 : decode cX5_plans 76 = .ok (.sipush 131, 3) := by decide +kernel
theorem dX5_plans_79 : decode cX5_plans 79 = .ok (.aload_n 0, 1) := by decide +kernel
theorem dX5_plans_80 : decode cX5_plans 80 = .ok (.getfield 7, 3) := by decide +kernel
theorem dX5_plans_83 : decode cX5_plans 83 = .ok (.bipush 20, 2) := by decide +kernel
theorem dX5_plans_85 : decode cX5_plans 85 = .ok (.iaload, 1) := by decide +kernel
theorem dX5_plans_86 : decode cX5_plans 86 = .ok (.iadd, 1) := by decide +kernel
theorem dX5_plans_87 : decode cX5_plans 87 = .ok (.bipush 40, 2) := by decide +kernel
theorem dX5_plans_89 : decode cX5_plans 89 = .ok (.aload_n 0, 1) := by decide +kernel
theorem dX5_plans_90 : decode cX5_plans 90 = .ok (.getfield 7, 3) := by decide +kernel
theorem dX5_plans_93 : decode cX5_plans 93 = .ok (.iconst 3, 1) := by decide +kernel
theorem dX5_plans_94 : decode cX5_plans 94 = .ok (.iaload, 1) := by decide +kernel
theorem dX5_plans_95 : decode cX5_plans 95 = .ok (.iadd, 1) := by decide +kernel
theorem dX5_plans_96 : decode cX5_plans 96 = .ok (.aload_n 0, 1) := by decide +kernel
theorem dX5_plans_97 : decode cX5_plans 97 = .ok (.getfield 7, 3) := by decide +kernel
theorem dX5_plans_100 : decode cX5_plans 100 = .ok (.bipush 75, 2) := by decide +kernel
theorem dX5_plans_102 : decode cX5_plans 102 = .ok (.iconst 2, 1) := by decide +kernel
theorem dX5_plans_103 : decode cX5_plans 103 = .ok (.iload_n 1, 1) := by decide +kernel
theorem dX5_plans_104 : decode cX5_plans 104 = .ok (.imul, 1) := by decide +kernel
theorem dX5_plans_105 : decode cX5_plans 105 = .ok (.iadd, 1) := by decide +kernel
theorem dX5_plans_106 : decode cX5_plans 106 = .ok (.iconst 1, 1) := by decide +kernel
theorem dX5_plans_107 : decode cX5_plans 107 = .ok (.iadd, 1) := by decide +kernel
theorem dX5_plans_108 : decode cX5_plans 108 = .ok (.iaload, 1) := by decide +kernel
theorem dX5_plans_109 : decode cX5_plans 109 = .ok (.isub, 1) := by decide +kernel
theorem dX5_plans_110 : decode cX5_plans 110 = .ok (.aload_n 0, 1) := by decide +kernel
theorem dX5_plans_111 : decode cX5_plans 111 = .ok (.invokevirtual 48, 3) := by decide +kernel
theorem dX5_plans_114 : decode cX5_plans 114 = .ok (.isub, 1) := by decide +kernel
theorem dX5_plans_115 : decode cX5_plans 115 = .ok (.iastore, 1) := by decide +kernel
theorem dX5_plans_116 : decode cX5_plans 116 = .ok (.aload_n 0, 1) := by decide +kernel
theorem dX5_plans_117 : decode cX5_plans 117 = .ok (.getfield 7, 3) := by decide +kernel
theorem dX5_plans_120 : decode cX5_plans 120 = .ok (.bipush 20, 2) := by decide +kernel
theorem dX5_plans_122 : decode cX5_plans 122 = .ok (.dup2, 1) := by decide +kernel
theorem dX5_plans_123 : decode cX5_plans 123 = .ok (.iaload, 1) := by decide +kernel
theorem dX5_plans_124 : decode cX5_plans 124 = .ok (.iconst 1, 1) := by decide +kernel
theorem dX5_plans_125 : decode cX5_plans 125 = .ok (.iadd, 1) := by decide +kernel
theorem dX5_plans_126 : decode cX5_plans 126 = .ok (.iastore, 1) := by decide +kernel
theorem dX5_plans_127 : decode cX5_plans 127 = .ok (.aload_n 0, 1) := by decide +kernel
theorem dX5_plans_128 : decode cX5_plans 128 = .ok (.bipush 75, 2) := by decide +kernel
theorem dX5_plans_130 : decode cX5_plans 130 = .ok (.iconst 2, 1) := by decide +kernel
theorem dX5_plans_131 : decode cX5_plans 131 = .ok (.aload_n 0, 1) := by decide +kernel
theorem dX5_plans_132 : decode cX5_plans 132 = .ok (.getfield 7, 3) := by decide +kernel
theorem dX5_plans_135 : decode cX5_plans 135 = .ok (.bipush 19, 2) := by decide +kernel
theorem dX5_plans_137 : decode cX5_plans 137 = .ok (.iaload, 1) := by decide +kernel
theorem dX5_plans_138 : decode cX5_plans 138 = .ok (.iload_n 1, 1) := by decide +kernel
theorem dX5_plans_139 : decode cX5_plans 139 = .ok (.invokevirtual 52, 3) := by decide +kernel
theorem dX5_plans_142 : decode cX5_plans 142 = .ok (.aload_n 0, 1) := by decide +kernel
theorem dX5_plans_143 : decode cX5_plans 143 = .ok (.getfield 7, 3) := by decide +kernel
theorem dX5_plans_146 : decode cX5_plans 146 = .ok (.bipush 19, 2) := by decide +kernel
theorem dX5_plans_148 : decode cX5_plans 148 = .ok (.dup2, 1) := by decide +kernel
theorem dX5_plans_149 : decode cX5_plans 149 = .ok (.iaload, 1) := by decide +kernel
theorem dX5_plans_150 : decode cX5_plans 150 = .ok (.iconst 1, 1) := by decide +kernel
theorem dX5_plans_151 : decode cX5_plans 151 = .ok (.isub, 1) := by decide +kernel
theorem dX5_plans_152 : decode cX5_plans 152 = .ok (.iastore, 1) := by decide +kernel
theorem dX5_plans_153 : decode cX5_plans 153 = .ok (.goto (-113), 3) := by decide +kernel
theorem dX5_plans_156 : decode cX5_plans 156 = .ok (.iinc 1 1, 3) := by decide +kernel
theorem dX5_plans_159 : decode cX5_plans 159 = .ok (.goto (-119), 3) := by decide +kernel
theorem dX5_plans_162 : decode cX5_plans 162 = .ok (.return_, 1) := by decide +kernel
set_option maxRecDepth 20000 in
theorem ggX5_under_X5_get : GoodIn wsX5_under wsX5_get := goodIn_r _ [6, 1, 11, 12, 13, 14, 15, 16, 17, 18, 19, 20, 21, 22] (by decide +kernel) (by decide +kernel)
set_option maxRecDepth 20000 in
theorem gX5_under_X5_get : GoodIn wsX5_under (wsV RX5 32 RX5 yX5_get wsX5_get) := goodIn_app (goodIn_of _ (by decide +kernel)) ggX5_under_X5_get
set_option maxRecDepth 20000 in
theorem ggX5_under_X5_back : GoodIn wsX5_under wsX5_back := goodIn_r _ [10, 2, 3, 4, 5, 6, 1, 11, 12, 13, 14, 15, 16, 17, 18, 19, 20, 21, 22] (by decide +kernel) (by decide +kernel)
set_option maxRecDepth 20000 in
theorem gX5_under_X5_back : GoodIn wsX5_under (wsV RX5 56 RX5 yX5_back wsX5_back) := goodIn_app (goodIn_of _ (by decide +kernel)) ggX5_under_X5_back
theorem dX5_under_0 : decode cX5_under 0 = .ok (.bipush (-6), 2) := by decide +kernel
theorem dX5_under_2 : decode cX5_under 2 = .ok (.istore_n 1, 1) := by decide +kernel
theorem dX5_under_3 : decode cX5_under 3 = .ok (.iconst 0, 1) := by decide +kernel
theorem dX5_under_4 : decode cX5_under 4 = .ok (.istore_n 2, 1) := by decide +kernel
theorem dX5_under_5 : decode cX5_under 5 = .ok (.iload_n 2, 1) := by decide +kernel
theorem dX5_under_6 : decode cX5_under 6 = .ok (.aload_n 0, 1) := by decide +kernel
theorem dX5_under_7 : decode cX5_under 7 = .ok (.getfield 7, 3) := by decide +kernel
theorem dX5_under_10 : decode cX5_under 10 = .ok (.bipush 9, 2) := by decide +kernel
theorem dX5_under_12 : decode cX5_under 12 = .ok (.iaload, 1) := by decide +kernel
theorem dX5_under_13 : decode cX5_under 13 = .ok (.if_icmp .ge 36, 3) := by decide +kernel
theorem dX5_under_16 : decode cX5_under 16 = .ok (.aload_n 0, 1) := by decide +kernel
theorem dX5_under_17 : decode cX5_under 17 = .ok (.iload_n 2, 1) := by decide +kernel
theorem dX5_under_18 : decode cX5_under 18 = .ok (.iconst 0, 1) := by decide +kernel
theorem dX5_under_19 : decode cX5_under 19 = .ok (.invokevirtual 32, 3) := by decide +kernel
theorem dX5_under_22 : decode cX5_under 22 = .ok (.bipush 60, 2) := by decide +kernel
theorem dX5_under_24 : decode cX5_under 24 = .ok (.if_icmp .lt 17, 3) := by decide +kernel
theorem dX5_under_27 : decode cX5_under 27 = .ok (.aload_n 0, 1) := by decide +kernel
theorem dX5_under_28 : decode cX5_under 28 = .ok (.iload_n 2, 1) := by decide +kernel
theorem dX5_under_29 : decode cX5_under 29 = .ok (.invokevirtual 56, 3) := by decide +kernel
theorem dX5_under_32 : decode cX5_under 32 = .ok (.bipush 60, 2) := by decide +kernel
theorem dX5_under_34 : decode cX5_under 34 = .ok (.if_icmp .ge 7, 3) := by decide +kernel
theorem dX5_under_37 : decode cX5_under 37 = .ok (.iload_n 2, 1) := by decide +kernel
theorem dX5_under_38 : decode cX5_under 38 = .ok (.goto 4, 3) := by decide +kernel
theorem dX5_under_41 : decode cX5_under 41 = .ok (.iload_n 1, 1) := by decide +kernel
theorem dX5_under_42 : decode cX5_under 42 = .ok (.istore_n 1, 1) := by decide +kernel
theorem dX5_under_43 : decode cX5_under 43 = .ok (.iinc 2 1, 3) := by decide +kernel
theorem dX5_under_46 : decode cX5_under 46 = .ok (.goto (-41), 3) := by decide +kernel
theorem dX5_under_49 : decode cX5_under 49 = .ok (.iload_n 1, 1) := by decide +kernel
theorem dX5_under_50 : decode cX5_under 50 = .ok (.ireturn, 1) := by decide +kernel
set_option maxRecDepth 20000 in
theorem ggX5_marks_X5_under : GoodIn wsX5_marks wsX5_under := goodIn_r _ [6, 1, 7, 8, 9, 5, 10, 11, 12, 13, 14, 19, 20, 21, 22, 23, 24, 25, 26, 27, 28, 29, 30] (by decide +kernel) (by decide +kernel)
set_option maxRecDepth 20000 in
theorem gX5_marks_X5_under : GoodIn wsX5_marks (wsV RX5 60 RX5 yX5_under wsX5_under) := goodIn_app (goodIn_of _ (by decide +kernel)) ggX5_marks_X5_under
set_option maxRecDepth 20000 in
theorem ggX5_marks_X5_get : GoodIn wsX5_marks wsX5_get := goodIn_r _ [10, 1, 19, 20, 21, 22, 23, 24, 25, 26, 27, 28, 29, 30] (by decide +kernel) (by decide +kernel)
set_option maxRecDepth 20000 in
theorem gX5_marks_X5_get : GoodIn wsX5_marks (wsV RX5 32 RX5 yX5_get wsX5_get) := goodIn_app (goodIn_of _ (by decide +kernel)) ggX5_marks_X5_get
set_option maxRecDepth 20000 in
theorem ggX5_marks_X5_put : GoodIn wsX5_marks wsX5_put := goodIn_r _ [18, 1, 19, 20, 21, 22, 23, 24, 25, 26, 27, 28, 29, 30] (by decide +kernel) (by decide +kernel)
set_option maxRecDepth 20000 in
theorem gX5_marks_X5_put : GoodIn wsX5_marks (wsV RX5 44 RX5 yX5_put wsX5_put) := goodIn_app (goodIn_of _ (by decide +kernel)) ggX5_marks_X5_put
theorem dX5_marks_0 : decode cX5_marks 0 = .ok (.aload_n 0, 1) := by decide +kernel
theorem dX5_marks_1 : decode cX5_marks 1 = .ok (.getfield 7, 3) := by decide +kernel
theorem dX5_marks_4 : decode cX5_marks 4 = .ok (.bipush 18, 2) := by decide +kernel
theorem dX5_marks_6 : decode cX5_marks 6 = .ok (.iaload, 1) := by decide +kernel
theorem dX5_marks_7 : decode cX5_marks 7 = .ok (.aload_n 0, 1) := by decide +kernel
theorem dX5_marks_8 : decode cX5_marks 8 = .ok (.getfield 7, 3) := by decide +kernel
theorem dX5_marks_11 : decode cX5_marks 11 = .ok (.iconst 4, 1) := by decide +kernel
theorem dX5_marks_12 : decode cX5_marks 12 = .ok (.iaload, 1) := by decide +kernel
theorem dX5_marks_13 : decode cX5_marks 13 = .ok (.if_icmp .ge 15, 3) := by decide +kernel
theorem dX5_marks_16 : decode cX5_marks 16 = .ok (.aload_n 0, 1) := by decide +kernel
theorem dX5_marks_17 : decode cX5_marks 17 = .ok (.getfield 7, 3) := by decide +kernel
theorem dX5_marks_20 : decode cX5_marks 20 = .ok (.bipush 17, 2) := by decide +kernel
theorem dX5_marks_22 : decode cX5_marks 22 = .ok (.dup2, 1) := by decide +kernel
theorem dX5_marks_23 : decode cX5_marks 23 = .ok (.iaload, 1) := by decide +kernel
theorem dX5_marks_24 : decode cX5_marks 24 = .ok (.iconst 1, 1) := by decide +kernel
theorem dX5_marks_25 : decode cX5_marks 25 = .ok (.iadd, 1) := by decide +kernel
theorem dX5_marks_26 : decode cX5_marks 26 = .ok (.iastore, 1) := by decide +kernel
theorem dX5_marks_27 : decode cX5_marks 27 = .ok (.return_, 1) := by decide +kernel
theorem dX5_marks_28 : decode cX5_marks 28 = .ok (.aload_n 0, 1) := by decide +kernel
theorem dX5_marks_29 : decode cX5_marks 29 = .ok (.getfield 7, 3) := by decide +kernel
theorem dX5_marks_32 : decode cX5_marks 32 = .ok (.bipush 18, 2) := by decide +kernel
theorem dX5_marks_34 : decode cX5_marks 34 = .ok (.dup2, 1) := by decide +kernel
theorem dX5_marks_35 : decode cX5_marks 35 = .ok (.iaload, 1) := by decide +kernel
theorem dX5_marks_36 : decode cX5_marks 36 = .ok (.aload_n 0, 1) := by decide +kernel
theorem dX5_marks_37 : decode cX5_marks 37 = .ok (.getfield 7, 3) := by decide +kernel
theorem dX5_marks_40 : decode cX5_marks 40 = .ok (.iconst 4, 1) := by decide +kernel
theorem dX5_marks_41 : decode cX5_marks 41 = .ok (.iaload, 1) := by decide +kernel
theorem dX5_marks_42 : decode cX5_marks 42 = .ok (.isub, 1) := by decide +kernel
theorem dX5_marks_43 : decode cX5_marks 43 = .ok (.iastore, 1) := by decide +kernel
theorem dX5_marks_44 : decode cX5_marks 44 = .ok (.aload_n 0, 1) := by decide +kernel
theorem dX5_marks_45 : decode cX5_marks 45 = .ok (.invokevirtual 60, 3) := by decide +kernel
theorem dX5_marks_48 : decode cX5_marks 48 = .ok (.istore_n 1, 1) := by decide +kernel
theorem dX5_marks_49 : decode cX5_marks 49 = .ok (.iload_n 1, 1) := by decide +kernel
theorem dX5_marks_50 : decode cX5_marks 50 = .ok (.bipush (-6), 2) := by decide +kernel
theorem dX5_marks_52 : decode cX5_marks 52 = .ok (.if_icmp .ne 15, 3) := by decide +kernel
theorem dX5_marks_55 : decode cX5_marks 55 = .ok (.aload_n 0, 1) := by decide +kernel
theorem dX5_marks_56 : decode cX5_marks 56 = .ok (.getfield 7, 3) := by decide +kernel
theorem dX5_marks_59 : decode cX5_marks 59 = .ok (.bipush 15, 2) := by decide +kernel
theorem dX5_marks_61 : decode cX5_marks 61 = .ok (.dup2, 1) := by decide +kernel
theorem dX5_marks_62 : decode cX5_marks 62 = .ok (.iaload, 1) := by decide +kernel
theorem dX5_marks_63 : decode cX5_marks 63 = .ok (.iconst 1, 1) := by decide +kernel
theorem dX5_marks_64 : decode cX5_marks 64 = .ok (.iadd, 1) := by decide +kernel
theorem dX5_marks_65 : decode cX5_marks 65 = .ok (.iastore, 1) := by decide +kernel
theorem dX5_marks_66 : decode cX5_marks 66 = .ok (.return_, 1) := by decide +kernel
theorem dX5_marks_67 : decode cX5_marks 67 = .ok (.aload_n 0, 1) := by decide +kernel
theorem dX5_marks_68 : decode cX5_marks 68 = .ok (.getfield 7, 3) := by decide +kernel
theorem dX5_marks_71 : decode cX5_marks 71 = .ok (.bipush 14, 2) := by decide +kernel
theorem dX5_marks_73 : decode cX5_marks 73 = .ok (.dup2, 1) := by decide +kernel
theorem dX5_marks_74 : decode cX5_marks 74 = .ok (.iaload, 1) := by decide +kernel
theorem dX5_marks_75 : decode cX5_marks 75 = .ok (.iconst 1, 1) := by decide +kernel
theorem dX5_marks_76 : decode cX5_marks 76 = .ok (.iadd, 1) := by decide +kernel
theorem dX5_marks_77 : decode cX5_marks 77 = .ok (.iastore, 1) := by decide +kernel
theorem dX5_marks_78 : decode cX5_marks 78 = .ok (.aload_n 0, 1) := by decide +kernel
theorem dX5_marks_79 : decode cX5_marks 79 = .ok (.iload_n 1, 1) := by decide +kernel
theorem dX5_marks_80 : decode cX5_marks 80 = .ok (.iconst 3, 1) := by decide +kernel
theorem dX5_marks_81 : decode cX5_marks 81 = .ok (.invokevirtual 32, 3) := by decide +kernel
theorem dX5_marks_84 : decode cX5_marks 84 = .ok (.bipush (-6), 2) := by decide +kernel
theorem dX5_marks_86 : decode cX5_marks 86 = .ok (.if_icmp .eq 21, 3) := by decide +kernel
theorem dX5_marks_89 : decode cX5_marks 89 = .ok (.aload_n 0, 1) := by decide +kernel
theorem dX5_marks_90 : decode cX5_marks 90 = .ok (.iload_n 1, 1) := by decide +kernel
theorem dX5_marks_91 : decode cX5_marks 91 = .ok (.iconst 4, 1) := by decide +kernel
theorem dX5_marks_92 : decode cX5_marks 92 = .ok (.iconst 1, 1) := by decide +kernel
theorem dX5_marks_93 : decode cX5_marks 93 = .ok (.invokevirtual 44, 3) := by decide +kernel
theorem dX5_marks_96 : decode cX5_marks 96 = .ok (.aload_n 0, 1) := by decide +kernel
theorem dX5_marks_97 : decode cX5_marks 97 = .ok (.getfield 7, 3) := by decide +kernel
theorem dX5_marks_100 : decode cX5_marks 100 = .ok (.bipush 16, 2) := by decide +kernel
theorem dX5_marks_102 : decode cX5_marks 102 = .ok (.dup2, 1) := by decide +kernel
theorem dX5_marks_103 : decode cX5_marks 103 = .ok (.iaload, 1) := by decide +kernel
theorem dX5_marks_104 : decode cX5_marks 104 = .ok (.iconst 1, 1) := by decide +kernel
theorem dX5_marks_105 : decode cX5_marks 105 = .ok (.iadd, 1) := by decide +kernel
theorem dX5_marks_106 : decode cX5_marks 106 = .ok (.iastore, 1) := by decide +kernel
theorem dX5_marks_107 : decode cX5_marks 107 = .ok (.aload_n 0, 1) := by decide +kernel
theorem dX5_marks_108 : decode cX5_marks 108 = .ok (.iload_n 1, 1) := by decide +kernel
theorem dX5_marks_109 : decode cX5_marks 109 = .ok (.iconst 3, 1) := by decide +kernel
theorem dX5_marks_110 : decode cX5_marks 110 = .ok (.aload_n 0, 1) := by decide +kernel
theorem dX5_marks_111 : decode cX5_marks 111 = .ok (.iload_n 1, 1) := by decide +kernel
theorem dX5_marks_112 : decode cX5_marks 112 = .ok (.iconst 0, 1) := by decide +kernel
theorem dX5_marks_113 : decode cX5_marks 113 = .ok (.invokevirtual 32, 3) := by decide +kernel
theorem dX5_marks_116 : decode cX5_marks 116 = .ok (.bipush 60, 2) := by decide +kernel
theorem dX5_marks_118 : decode cX5_marks 118 = .ok (.isub, 1) := by decide +kernel
theorem dX5_marks_119 : decode cX5_marks 119 = .ok (.invokevirtual 44, 3) := by decide +kernel
theorem dX5_marks_122 : decode cX5_marks 122 = .ok (.return_, 1) := by decide +kernel
set_option maxRecDepth 20000 in
theorem ggX5_doesPlans_X5_takesOut : GoodIn wsX5_doesPlans wsX5_takesOut := goodIn_r _ [6, 1, 27, 28, 29, 30, 31, 32, 33, 34, 35, 36, 37, 38] (by decide +kernel) (by decide +kernel)
set_option maxRecDepth 20000 in
theorem gX5_doesPlans_X5_takesOut : GoodIn wsX5_doesPlans (wsV RX5 52 RX5 yX5_takesOut wsX5_takesOut) := goodIn_app (goodIn_of _ (by decide +kernel)) ggX5_doesPlans_X5_takesOut
set_option maxRecDepth 20000 in
theorem ggX5_doesPlans_X5_marks : GoodIn wsX5_doesPlans wsX5_marks := goodIn_r _ [10, 1, 11, 12, 13, 5, 14, 15, 16, 17, 18, 19, 20, 21, 22, 23, 24, 25, 26, 27, 28, 29, 30, 31, 32, 33, 34, 35, 36, 37, 38] (by decide +kernel) (by decide +kernel)
set_option maxRecDepth 20000 in
theorem gX5_doesPlans_X5_marks : GoodIn wsX5_doesPlans (wsV RX5 63 RX5 yX5_marks wsX5_marks) := goodIn_app (goodIn_of _ (by decide +kernel)) ggX5_doesPlans_X5_marks
theorem dX5_doesPlans_0 : decode cX5_doesPlans 0 = .ok (.iconst 0, 1) := by decide +kernel
theorem dX5_doesPlans_1 : decode cX5_doesPlans 1 = .ok (.istore_n 1, 1) := by decide +kernel
theorem dX5_doesPlans_2 : decode cX5_doesPlans 2 = .ok (.iload_n 1, 1) := by decide +kernel
theorem dX5_doesPlans_3 : decode cX5_doesPlans 3 = .ok (.aload_n 0, 1) := by decide +kernel
theorem dX5_doesPlans_4 : decode cX5_doesPlans 4 = .ok (.getfield 7, 3) := by decide +kernel
theorem dX5_doesPlans_7 : decode cX5_doesPlans 7 = .ok (.bipush 20, 2) := by decide +kernel
theorem dX5_doesPlans_9 : decode cX5_doesPlans 9 = .ok (.iaload, 1) := by decide +kernel
theorem dX5_doesPlans_10 : decode cX5_doesPlans 10 = .ok (.if_icmp .ge 56, 3) := by decide +kernel
theorem dX5_doesPlans_13 : decode cX5_doesPlans 13 = .ok (.aload_n 0, 1) := by decide +kernel
theorem dX5_doesPlans_14 : decode cX5_doesPlans 14 = .ok (.getfield 7, 3) := by decide +kernel
theorem dX5_doesPlans_17 : decode cX5_doesPlans 17 = .ok (.sipush 131, 3) := by decide +kernel
theorem dX5_doesPlans_20 : decode cX5_doesPlans 20 = .ok (.iload_n 1, 1) := by decide +kernel
theorem dX5_doesPlans_21 : decode cX5_doesPlans 21 = .ok (.iadd, 1) := by decide +kernel
theorem dX5_doesPlans_22 : decode cX5_doesPlans 22 = .ok (.iaload, 1) := by decide +kernel
theorem dX5_doesPlans_23 : decode cX5_doesPlans 23 = .ok (.ifCond .gt 37, 3) := by decide +kernel
theorem dX5_doesPlans_26 : decode cX5_doesPlans 26 = .ok (.aload_n 0, 1) := by decide +kernel
theorem dX5_doesPlans_27 : decode cX5_doesPlans 27 = .ok (.sipush 131, 3) := by decide +kernel
theorem dX5_doesPlans_30 : decode cX5_doesPlans 30 = .ok (.iconst 1, 1) := by decide +kernel
theorem dX5_doesPlans_31 : decode cX5_doesPlans 31 = .ok (.aload_n 0, 1) := by decide +kernel
theorem dX5_doesPlans_32 : decode cX5_doesPlans 32 = .ok (.getfield 7, 3) := by decide +kernel
theorem dX5_doesPlans_35 : decode cX5_doesPlans 35 = .ok (.bipush 20, 2) := by decide +kernel
theorem dX5_doesPlans_37 : decode cX5_doesPlans 37 = .ok (.iaload, 1) := by decide +kernel
theorem dX5_doesPlans_38 : decode cX5_doesPlans 38 = .ok (.iload_n 1, 1) := by decide +kernel
theorem dX5_doesPlans_39 : decode cX5_doesPlans 39 = .ok (.invokevirtual 52, 3) := by decide +kernel
theorem dX5_doesPlans_42 : decode cX5_doesPlans 42 = .ok (.aload_n 0, 1) := by decide +kernel
theorem dX5_doesPlans_43 : decode cX5_doesPlans 43 = .ok (.getfield 7, 3) := by decide +kernel
theorem dX5_doesPlans_46 : decode cX5_doesPlans 46 = .ok (.bipush 20, 2) := by decide +kernel
theorem dX5_doesPlans_48 : decode cX5_doesPlans 48 = .ok (.dup2, 1) := by decide +kernel
theorem dX5_doesPlans_49 : decode cX5_doesPlans 49 = .ok (.iaload, 1) := by decide +kernel
theorem dX5_doesPlans_50 : decode cX5_doesPlans 50 = .ok (.iconst 1, 1) := by decide +kernel
theorem dX5_doesPlans_51 : decode cX5_doesPlans 51 = .ok (.isub, 1) := by decide +kernel
theorem dX5_doesPlans_52 : decode cX5_doesPlans 52 = .ok (.iastore, 1) := by decide +kernel
theorem dX5_doesPlans_53 : decode cX5_doesPlans 53 = .ok (.aload_n 0, 1) := by decide +kernel
theorem dX5_doesPlans_54 : decode cX5_doesPlans 54 = .ok (.invokevirtual 63, 3) := by decide +kernel
theorem dX5_doesPlans_57 : decode cX5_doesPlans 57 = .ok (.goto (-55), 3) := by decide +kernel
theorem dX5_doesPlans_60 : decode cX5_doesPlans 60 = .ok (.iinc 1 1, 3) := by decide +kernel
theorem dX5_doesPlans_63 : decode cX5_doesPlans 63 = .ok (.goto (-61), 3) := by decide +kernel
theorem dX5_doesPlans_66 : decode cX5_doesPlans 66 = .ok (.return_, 1) := by decide +kernel
set_option maxRecDepth 20000 in
theorem ggX5_judges_X5_get : GoodIn wsX5_judges wsX5_get := goodIn_r _ [6, 1, 10, 11, 12, 13, 14, 15, 16, 17, 18, 19, 20, 21] (by decide +kernel) (by decide +kernel)
set_option maxRecDepth 20000 in
theorem gX5_judges_X5_get : GoodIn wsX5_judges (wsV RX5 32 RX5 yX5_get wsX5_get) := goodIn_app (goodIn_of _ (by decide +kernel)) ggX5_judges_X5_get
set_option maxRecDepth 20000 in
theorem ggX5_judges_X5_in : GoodIn wsX5_judges wsX5_in := goodIn_r _ [9] (by decide +kernel) (by decide +kernel)
set_option maxRecDepth 20000 in
theorem gX5_judges_X5_in : GoodIn wsX5_judges (va_wsS RX5 36 yX5_in wsX5_in) := goodIn_app (goodIn_of _ (by decide +kernel)) ggX5_judges_X5_in
theorem dX5_judges_0 : decode cX5_judges 0 = .ok (.aload_n 0, 1) := by decide +kernel
theorem dX5_judges_1 : decode cX5_judges 1 = .ok (.iload_n 1, 1) := by decide +kernel
theorem dX5_judges_2 : decode cX5_judges 2 = .ok (.iconst 3, 1) := by decide +kernel
theorem dX5_judges_3 : decode cX5_judges 3 = .ok (.invokevirtual 32, 3) := by decide +kernel
theorem dX5_judges_6 : decode cX5_judges 6 = .ok (.aload_n 0, 1) := by decide +kernel
theorem dX5_judges_7 : decode cX5_judges 7 = .ok (.getfield 7, 3) := by decide +kernel
theorem dX5_judges_10 : decode cX5_judges 10 = .ok (.iconst 3, 1) := by decide +kernel
theorem dX5_judges_11 : decode cX5_judges 11 = .ok (.iaload, 1) := by decide +kernel
theorem dX5_judges_12 : decode cX5_judges 12 = .ok (.isub, 1) := by decide +kernel
theorem dX5_judges_13 : decode cX5_judges 13 = .ok (.istore_n 2, 1) := by decide +kernel
theorem dX5_judges_14 : decode cX5_judges 14 = .ok (.aload_n 0, 1) := by decide +kernel
theorem dX5_judges_15 : decode cX5_judges 15 = .ok (.iload_n 1, 1) := by decide +kernel
theorem dX5_judges_16 : decode cX5_judges 16 = .ok (.iconst 3, 1) := by decide +kernel
theorem dX5_judges_17 : decode cX5_judges 17 = .ok (.invokevirtual 32, 3) := by decide +kernel
theorem dX5_judges_20 : decode cX5_judges 20 = .ok (.bipush (-6), 2) := by decide +kernel
theorem dX5_judges_22 : decode cX5_judges 22 = .ok (.if_icmp .ne 8, 3) := by decide +kernel
theorem dX5_judges_25 : decode cX5_judges 25 = .ok (.bipush 13, 2) := by decide +kernel
theorem dX5_judges_27 : decode cX5_judges 27 = .ok (.goto 44, 3) := by decide +kernel
theorem dX5_judges_30 : decode cX5_judges 30 = .ok (.aload_n 0, 1) := by decide +kernel
theorem dX5_judges_31 : decode cX5_judges 31 = .ok (.iload_n 1, 1) := by decide +kernel
theorem dX5_judges_32 : decode cX5_judges 32 = .ok (.iconst 4, 1) := by decide +kernel
theorem dX5_judges_33 : decode cX5_judges 33 = .ok (.invokevirtual 32, 3) := by decide +kernel
theorem dX5_judges_36 : decode cX5_judges 36 = .ok (.ifCond .ne 33, 3) := by decide +kernel
theorem dX5_judges_39 : decode cX5_judges 39 = .ok (.iload_n 2, 1) := by decide +kernel
theorem dX5_judges_40 : decode cX5_judges 40 = .ok (.i2l, 1) := by decide +kernel
theorem dX5_judges_41 : decode cX5_judges 41 = .ok (.aload_n 0, 1) := by decide +kernel
theorem dX5_judges_42 : decode cX5_judges 42 = .ok (.getfield 7, 3) := by decide +kernel
theorem dX5_judges_45 : decode cX5_judges 45 = .ok (.bipush 7, 2) := by decide +kernel
theorem dX5_judges_47 : decode cX5_judges 47 = .ok (.iaload, 1) := by decide +kernel
theorem dX5_judges_48 : decode cX5_judges 48 = .ok (.ineg, 1) := by decide +kernel
theorem dX5_judges_49 : decode cX5_judges 49 = .ok (.i2l, 1) := by decide +kernel
theorem dX5_judges_50 : decode cX5_judges 50 = .ok (.aload_n 0, 1) := by decide +kernel
theorem dX5_judges_51 : decode cX5_judges 51 = .ok (.getfield 7, 3) := by decide +kernel
theorem dX5_judges_54 : decode cX5_judges 54 = .ok (.bipush 7, 2) := by decide +kernel
theorem dX5_judges_56 : decode cX5_judges 56 = .ok (.iaload, 1) := by decide +kernel
theorem dX5_judges_57 : decode cX5_judges 57 = .ok (.i2l, 1) := by decide +kernel
theorem dX5_judges_58 : decode cX5_judges 58 = .ok (.invokestatic 36, 3) := by decide +kernel
theorem dX5_judges_61 : decode cX5_judges 61 = .ok (.ifCond .eq 8, 3) := by decide +kernel
theorem dX5_judges_64 : decode cX5_judges 64 = .ok (.bipush 11, 2) := by decide +kernel
theorem dX5_judges_66 : decode cX5_judges 66 = .ok (.goto 5, 3) := by decide +kernel
theorem dX5_judges_69 : decode cX5_judges 69 = .ok (.bipush 12, 2) := by decide +kernel
theorem dX5_judges_71 : decode cX5_judges 71 = .ok (.istore_n 3, 1) := by decide +kernel
theorem dX5_judges_72 : decode cX5_judges 72 = .ok (.aload_n 0, 1) := by decide +kernel
theorem dX5_judges_73 : decode cX5_judges 73 = .ok (.getfield 7, 3) := by decide +kernel
theorem dX5_judges_76 : decode cX5_judges 76 = .ok (.iload_n 3, 1) := by decide +kernel
theorem dX5_judges_77 : decode cX5_judges 77 = .ok (.dup2, 1) := by decide +kernel
theorem dX5_judges_78 : decode cX5_judges 78 = .ok (.iaload, 1) := by decide +kernel
theorem dX5_judges_79 : decode cX5_judges 79 = .ok (.iconst 1, 1) := by decide +kernel
theorem dX5_judges_80 : decode cX5_judges 80 = .ok (.iadd, 1) := by decide +kernel
theorem dX5_judges_81 : decode cX5_judges 81 = .ok (.iastore, 1) := by decide +kernel
theorem dX5_judges_82 : decode cX5_judges 82 = .ok (.return_, 1) := by decide +kernel
set_option maxRecDepth 20000 in
theorem ggX5_ticksOn_X5_moves : GoodIn wsX5_ticksOn wsX5_moves := goodIn_r _ [6, 1, 7, 8, 9, 5, 10, 11, 12, 13, 14, 54, 55, 56, 57, 58, 59, 60, 61, 62, 63, 64, 65] (by decide +kernel) (by decide +kernel)
set_option maxRecDepth 20000 in
theorem gX5_ticksOn_X5_moves : GoodIn wsX5_ticksOn (wsV RX5 66 RX5 yX5_moves wsX5_moves) := goodIn_app (goodIn_of _ (by decide +kernel)) ggX5_ticksOn_X5_moves
set_option maxRecDepth 20000 in
theorem ggX5_ticksOn_X5_sees : GoodIn wsX5_ticksOn wsX5_sees := goodIn_r _ [18, 1, 7, 8, 9, 5, 10, 11, 12, 13, 14, 54, 55, 56, 57, 58, 59, 60, 61, 62, 63, 64, 65] (by decide +kernel) (by decide +kernel)
set_option maxRecDepth 20000 in
theorem gX5_ticksOn_X5_sees : GoodIn wsX5_ticksOn (wsV RX5 69 RX5 yX5_sees wsX5_sees) := goodIn_app (goodIn_of _ (by decide +kernel)) ggX5_ticksOn_X5_sees
set_option maxRecDepth 20000 in
theorem ggX5_ticksOn_X5_plans : GoodIn wsX5_ticksOn wsX5_plans := goodIn_r _ [22, 1, 23, 24, 25, 5, 26, 27, 28, 29, 30, 54, 55, 56, 57, 58, 59, 60, 61, 62, 63, 64, 65] (by decide +kernel) (by decide +kernel)
set_option maxRecDepth 20000 in
theorem gX5_ticksOn_X5_plans : GoodIn wsX5_ticksOn (wsV RX5 72 RX5 yX5_plans wsX5_plans) := goodIn_app (goodIn_of _ (by decide +kernel)) ggX5_ticksOn_X5_plans
set_option maxRecDepth 20000 in
theorem ggX5_ticksOn_X5_doesPlans : GoodIn wsX5_ticksOn wsX5_doesPlans := goodIn_r _ [34, 1, 27, 28, 29, 5, 30, 35, 36, 37, 38, 39, 40, 41, 42, 7, 8, 9, 10, 43, 44, 45, 46, 11, 12, 13, 14, 54, 55, 56, 57, 58, 59, 60, 61, 62, 63, 64, 65] (by decide +kernel) (by decide +kernel)
set_option maxRecDepth 20000 in
theorem gX5_ticksOn_X5_doesPlans : GoodIn wsX5_ticksOn (wsV RX5 75 RX5 yX5_doesPlans wsX5_doesPlans) := goodIn_app (goodIn_of _ (by decide +kernel)) ggX5_ticksOn_X5_doesPlans
set_option maxRecDepth 20000 in
theorem ggX5_ticksOn_X5_back : GoodIn wsX5_ticksOn wsX5_back := goodIn_r _ [46, 7, 8, 9, 5, 10, 1, 54, 55, 56, 57, 58, 59, 60, 61, 62, 63, 64, 65] (by decide +kernel) (by decide +kernel)
set_option maxRecDepth 20000 in
theorem gX5_ticksOn_X5_back : GoodIn wsX5_ticksOn (wsV RX5 56 RX5 yX5_back wsX5_back) := goodIn_app (goodIn_of _ (by decide +kernel)) ggX5_ticksOn_X5_back
set_option maxRecDepth 20000 in
theorem ggX5_ticksOn_X5_judges : GoodIn wsX5_ticksOn wsX5_judges := goodIn_r _ [50, 1, 7, 8, 9, 5, 10, 51, 52, 53, 54, 55, 56, 57, 58, 59, 60, 61, 62, 63, 64, 65] (by decide +kernel) (by decide +kernel)
set_option maxRecDepth 20000 in
theorem gX5_ticksOn_X5_judges : GoodIn wsX5_ticksOn (wsV RX5 78 RX5 yX5_judges wsX5_judges) := goodIn_app (goodIn_of _ (by decide +kernel)) ggX5_ticksOn_X5_judges
set_option maxRecDepth 20000 in
theorem ggX5_ticksOn_X5_takesOut : GoodIn wsX5_ticksOn wsX5_takesOut := goodIn_r _ [30, 1, 54, 55, 56, 57, 58, 59, 60, 61, 62, 63, 64, 65] (by decide +kernel) (by decide +kernel)
set_option maxRecDepth 20000 in
theorem gX5_ticksOn_X5_takesOut : GoodIn wsX5_ticksOn (wsV RX5 52 RX5 yX5_takesOut wsX5_takesOut) := goodIn_app (goodIn_of _ (by decide +kernel)) ggX5_ticksOn_X5_takesOut
theorem dX5_ticksOn_0 : decode cX5_ticksOn 0 = .ok (.aload_n 0, 1) := by decide +kernel
theorem dX5_ticksOn_1 : decode cX5_ticksOn 1 = .ok (.invokevirtual 66, 3) := by decide +kernel
theorem dX5_ticksOn_4 : decode cX5_ticksOn 4 = .ok (.aload_n 0, 1) := by decide +kernel
theorem dX5_ticksOn_5 : decode cX5_ticksOn 5 = .ok (.invokevirtual 69, 3) := by decide +kernel
theorem dX5_ticksOn_8 : decode cX5_ticksOn 8 = .ok (.aload_n 0, 1) := by decide +kernel
theorem dX5_ticksOn_9 : decode cX5_ticksOn 9 = .ok (.invokevirtual 72, 3) := by decide +kernel
theorem dX5_ticksOn_12 : decode cX5_ticksOn 12 = .ok (.aload_n 0, 1) := by decide +kernel
theorem dX5_ticksOn_13 : decode cX5_ticksOn 13 = .ok (.invokevirtual 75, 3) := by decide +kernel
theorem dX5_ticksOn_16 : decode cX5_ticksOn 16 = .ok (.aload_n 0, 1) := by decide +kernel
theorem dX5_ticksOn_17 : decode cX5_ticksOn 17 = .ok (.getfield 7, 3) := by decide +kernel
theorem dX5_ticksOn_20 : decode cX5_ticksOn 20 = .ok (.bipush 18, 2) := by decide +kernel
theorem dX5_ticksOn_22 : decode cX5_ticksOn 22 = .ok (.iaload, 1) := by decide +kernel
theorem dX5_ticksOn_23 : decode cX5_ticksOn 23 = .ok (.aload_n 0, 1) := by decide +kernel
theorem dX5_ticksOn_24 : decode cX5_ticksOn 24 = .ok (.getfield 7, 3) := by decide +kernel
theorem dX5_ticksOn_27 : decode cX5_ticksOn 27 = .ok (.bipush 6, 2) := by decide +kernel
theorem dX5_ticksOn_29 : decode cX5_ticksOn 29 = .ok (.iaload, 1) := by decide +kernel
theorem dX5_ticksOn_30 : decode cX5_ticksOn 30 = .ok (.iadd, 1) := by decide +kernel
theorem dX5_ticksOn_31 : decode cX5_ticksOn 31 = .ok (.istore_n 1, 1) := by decide +kernel
theorem dX5_ticksOn_32 : decode cX5_ticksOn 32 = .ok (.aload_n 0, 1) := by decide +kernel
theorem dX5_ticksOn_33 : decode cX5_ticksOn 33 = .ok (.getfield 7, 3) := by decide +kernel
theorem dX5_ticksOn_36 : decode cX5_ticksOn 36 = .ok (.bipush 18, 2) := by decide +kernel
theorem dX5_ticksOn_38 : decode cX5_ticksOn 38 = .ok (.iload_n 1, 1) := by decide +kernel
theorem dX5_ticksOn_39 : decode cX5_ticksOn 39 = .ok (.aload_n 0, 1) := by decide +kernel
theorem dX5_ticksOn_40 : decode cX5_ticksOn 40 = .ok (.getfield 7, 3) := by decide +kernel
theorem dX5_ticksOn_43 : decode cX5_ticksOn 43 = .ok (.iconst 5, 1) := by decide +kernel
theorem dX5_ticksOn_44 : decode cX5_ticksOn 44 = .ok (.iaload, 1) := by decide +kernel
theorem dX5_ticksOn_45 : decode cX5_ticksOn 45 = .ok (.if_icmp .le 12, 3) := by decide +kernel
theorem dX5_ticksOn_48 : decode cX5_ticksOn 48 = .ok (.aload_n 0, 1) := by decide +kernel
theorem dX5_ticksOn_49 : decode cX5_ticksOn 49 = .ok (.getfield 7, 3) := by decide +kernel
theorem dX5_ticksOn_52 : decode cX5_ticksOn 52 = .ok (.iconst 5, 1) := by decide +kernel
theorem dX5_ticksOn_53 : decode cX5_ticksOn 53 = .ok (.iaload, 1) := by decide +kernel
theorem dX5_ticksOn_54 : decode cX5_ticksOn 54 = .ok (.goto 4, 3) := by decide +kernel
theorem dX5_ticksOn_57 : decode cX5_ticksOn 57 = .ok (.iload_n 1, 1) := by decide +kernel
theorem dX5_ticksOn_58 : decode cX5_ticksOn 58 = .ok (.iastore, 1) := by decide +kernel
theorem dX5_ticksOn_59 : decode cX5_ticksOn 59 = .ok (.iconst 0, 1) := by decide +kernel
theorem dX5_ticksOn_60 : decode cX5_ticksOn 60 = .ok (.istore_n 2, 1) := by decide +kernel
theorem dX5_ticksOn_61 : decode cX5_ticksOn 61 = .ok (.iconst 0, 1) := by decide +kernel
theorem dX5_ticksOn_62 : decode cX5_ticksOn 62 = .ok (.istore_n 3, 1) := by decide +kernel
theorem dX5_ticksOn_63 : decode cX5_ticksOn 63 = .ok (.iload_n 3, 1) := by decide +kernel
theorem dX5_ticksOn_64 : decode cX5_ticksOn 64 = .ok (.aload_n 0, 1) := by decide +kernel
theorem dX5_ticksOn_65 : decode cX5_ticksOn 65 = .ok (.getfield 7, 3) := by decide +kernel
theorem dX5_ticksOn_68 : decode cX5_ticksOn 68 = .ok (.bipush 9, 2) := by decide +kernel
theorem dX5_ticksOn_70 : decode cX5_ticksOn 70 = .ok (.iaload, 1) := by decide +kernel
theorem dX5_ticksOn_71 : decode cX5_ticksOn 71 = .ok (.if_icmp .ge 57, 3) := by decide +kernel
theorem dX5_ticksOn_74 : decode cX5_ticksOn 74 = .ok (.aload_n 0, 1) := by decide +kernel
theorem dX5_ticksOn_75 : decode cX5_ticksOn 75 = .ok (.iload_n 3, 1) := by decide +kernel
theorem dX5_ticksOn_76 : decode cX5_ticksOn 76 = .ok (.invokevirtual 56, 3) := by decide +kernel
theorem dX5_ticksOn_79 : decode cX5_ticksOn 79 = .ok (.bipush 100, 2) := by decide +kernel
theorem dX5_ticksOn_81 : decode cX5_ticksOn 81 = .ok (.if_icmp .lt 41, 3) := by decide +kernel
theorem dX5_ticksOn_84 : decode cX5_ticksOn 84 = .ok (.aload_n 0, 1) := by decide +kernel
theorem dX5_ticksOn_85 : decode cX5_ticksOn 85 = .ok (.iload_n 3, 1) := by decide +kernel
theorem dX5_ticksOn_86 : decode cX5_ticksOn 86 = .ok (.invokevirtual 78, 3) := by decide +kernel
theorem dX5_ticksOn_89 : decode cX5_ticksOn 89 = .ok (.aload_n 0, 1) := by decide +kernel
theorem dX5_ticksOn_90 : decode cX5_ticksOn 90 = .ok (.bipush 27, 2) := by decide +kernel
theorem dX5_ticksOn_92 : decode cX5_ticksOn 92 = .ok (.bipush 6, 2) := by decide +kernel
theorem dX5_ticksOn_94 : decode cX5_ticksOn 94 = .ok (.aload_n 0, 1) := by decide +kernel
theorem dX5_ticksOn_95 : decode cX5_ticksOn 95 = .ok (.getfield 7, 3) := by decide +kernel
theorem dX5_ticksOn_98 : decode cX5_ticksOn 98 = .ok (.bipush 9, 2) := by decide +kernel
theorem dX5_ticksOn_100 : decode cX5_ticksOn 100 = .ok (.iaload, 1) := by decide +kernel
theorem dX5_ticksOn_101 : decode cX5_ticksOn 101 = .ok (.iload_n 3, 1) := by decide +kernel
theorem dX5_ticksOn_102 : decode cX5_ticksOn 102 = .ok (.invokevirtual 52, 3) := by decide +kernel
theorem dX5_ticksOn_105 : decode cX5_ticksOn 105 = .ok (.aload_n 0, 1) := by decide +kernel
theorem dX5_ticksOn_106 : decode cX5_ticksOn 106 = .ok (.getfield 7, 3) := by decide +kernel
theorem dX5_ticksOn_109 : decode cX5_ticksOn 109 = .ok (.bipush 9, 2) := by decide +kernel
theorem dX5_ticksOn_111 : decode cX5_ticksOn 111 = .ok (.dup2, 1) := by decide +kernel
theorem dX5_ticksOn_112 : decode cX5_ticksOn 112 = .ok (.iaload, 1) := by decide +kernel
theorem dX5_ticksOn_113 : decode cX5_ticksOn 113 = .ok (.iconst 1, 1) := by decide +kernel
theorem dX5_ticksOn_114 : decode cX5_ticksOn 114 = .ok (.isub, 1) := by decide +kernel
theorem dX5_ticksOn_115 : decode cX5_ticksOn 115 = .ok (.iastore, 1) := by decide +kernel
theorem dX5_ticksOn_116 : decode cX5_ticksOn 116 = .ok (.iinc 2 1, 3) := by decide +kernel
theorem dX5_ticksOn_119 : decode cX5_ticksOn 119 = .ok (.goto (-56), 3) := by decide +kernel
theorem dX5_ticksOn_122 : decode cX5_ticksOn 122 = .ok (.iinc 3 1, 3) := by decide +kernel
theorem dX5_ticksOn_125 : decode cX5_ticksOn 125 = .ok (.goto (-62), 3) := by decide +kernel
theorem dX5_ticksOn_128 : decode cX5_ticksOn 128 = .ok (.aload_n 0, 1) := by decide +kernel
theorem dX5_ticksOn_129 : decode cX5_ticksOn 129 = .ok (.getfield 7, 3) := by decide +kernel
theorem dX5_ticksOn_132 : decode cX5_ticksOn 132 = .ok (.bipush 8, 2) := by decide +kernel
theorem dX5_ticksOn_134 : decode cX5_ticksOn 134 = .ok (.dup2, 1) := by decide +kernel
theorem dX5_ticksOn_135 : decode cX5_ticksOn 135 = .ok (.iaload, 1) := by decide +kernel
theorem dX5_ticksOn_136 : decode cX5_ticksOn 136 = .ok (.iconst 1, 1) := by decide +kernel
theorem dX5_ticksOn_137 : decode cX5_ticksOn 137 = .ok (.iadd, 1) := by decide +kernel
theorem dX5_ticksOn_138 : decode cX5_ticksOn 138 = .ok (.iastore, 1) := by decide +kernel
theorem dX5_ticksOn_139 : decode cX5_ticksOn 139 = .ok (.iload_n 2, 1) := by decide +kernel
theorem dX5_ticksOn_140 : decode cX5_ticksOn 140 = .ok (.ireturn, 1) := by decide +kernel
set_option maxRecDepth 20000 in
theorem ggX5_passes_X5_ticksOn : GoodIn wsX5_passes wsX5_ticksOn := goodIn_r _ [5, 6, 7, 8, 9, 4, 10, 11, 12, 13, 14, 15, 16, 17, 18, 19, 20, 21, 22, 23, 24, 25, 26, 27, 28, 29, 30, 31, 32, 33, 34, 35, 36, 37, 38, 39, 40, 41, 42, 43, 44, 45, 46, 47, 48, 49, 50, 51, 52, 53, 54, 55, 56, 57, 58, 59, 60, 61, 62, 63, 64, 65, 66, 67, 68, 69] (by decide +kernel) (by decide +kernel)
set_option maxRecDepth 20000 in
theorem gX5_passes_X5_ticksOn : GoodIn wsX5_passes (wsV RX5 82 RX5 yX5_ticksOn wsX5_ticksOn) := goodIn_app (goodIn_of _ (by decide +kernel)) ggX5_passes_X5_ticksOn
theorem dX5_passes_0 : decode cX5_passes 0 = .ok (.iconst 0, 1) := by decide +kernel
theorem dX5_passes_1 : decode cX5_passes 1 = .ok (.istore_n 2, 1) := by decide +kernel
theorem dX5_passes_2 : decode cX5_passes 2 = .ok (.iconst 0, 1) := by decide +kernel
theorem dX5_passes_3 : decode cX5_passes 3 = .ok (.istore_n 3, 1) := by decide +kernel
theorem dX5_passes_4 : decode cX5_passes 4 = .ok (.iload_n 3, 1) := by decide +kernel
theorem dX5_passes_5 : decode cX5_passes 5 = .ok (.iload_n 1, 1) := by decide +kernel
theorem dX5_passes_6 : decode cX5_passes 6 = .ok (.if_icmp .ge 16, 3) := by decide +kernel
theorem dX5_passes_9 : decode cX5_passes 9 = .ok (.iload_n 2, 1) := by decide +kernel
theorem dX5_passes_10 : decode cX5_passes 10 = .ok (.aload_n 0, 1) := by decide +kernel
theorem dX5_passes_11 : decode cX5_passes 11 = .ok (.invokevirtual 82, 3) := by decide +kernel
theorem dX5_passes_14 : decode cX5_passes 14 = .ok (.iadd, 1) := by decide +kernel
theorem dX5_passes_15 : decode cX5_passes 15 = .ok (.istore_n 2, 1) := by decide +kernel
theorem dX5_passes_16 : decode cX5_passes 16 = .ok (.iinc 3 1, 3) := by decide +kernel
theorem dX5_passes_19 : decode cX5_passes 19 = .ok (.goto (-15), 3) := by decide +kernel
theorem dX5_passes_22 : decode cX5_passes 22 = .ok (.iload_n 2, 1) := by decide +kernel
theorem dX5_passes_23 : decode cX5_passes 23 = .ok (.ireturn, 1) := by decide +kernel
set_option maxRecDepth 20000 in
theorem ggX5_isSetting_X5_in : GoodIn wsX5_isSetting wsX5_in := goodIn_r _ [8] (by decide +kernel) (by decide +kernel)
set_option maxRecDepth 20000 in
theorem gX5_isSetting_X5_in : GoodIn wsX5_isSetting (va_wsS RX5 36 yX5_in wsX5_in) := goodIn_app (goodIn_of _ (by decide +kernel)) ggX5_isSetting_X5_in
theorem dX5_isSetting_0 : decode cX5_isSetting 0 = .ok (.iload_n 0, 1) := by decide +kernel
theorem dX5_isSetting_1 : decode cX5_isSetting 1 = .ok (.tableswitch 87 0 7 #[47, 57, 57, 67, 77, 87, 47, 47], 47) := by decide +kernel
theorem dX5_isSetting_48 : decode cX5_isSetting 48 = .ok (.iload_n 1, 1) := by decide +kernel
theorem dX5_isSetting_49 : decode cX5_isSetting 49 = .ok (.i2l, 1) := by decide +kernel
theorem dX5_isSetting_50 : decode cX5_isSetting 50 = .ok (.lconst 0, 1) := by decide +kernel
theorem dX5_isSetting_51 : decode cX5_isSetting 51 = .ok (.ldc2_w 85, 3) := by decide +kernel
theorem dX5_isSetting_54 : decode cX5_isSetting 54 = .ok (.invokestatic 36, 3) := by decide +kernel
theorem dX5_isSetting_57 : decode cX5_isSetting 57 = .ok (.ireturn, 1) := by decide +kernel
theorem dX5_isSetting_58 : decode cX5_isSetting 58 = .ok (.iload_n 1, 1) := by decide +kernel
theorem dX5_isSetting_59 : decode cX5_isSetting 59 = .ok (.i2l, 1) := by decide +kernel
theorem dX5_isSetting_60 : decode cX5_isSetting 60 = .ok (.lconst 0, 1) := by decide +kernel
theorem dX5_isSetting_61 : decode cX5_isSetting 61 = .ok (.ldc2_w 87, 3) := by decide +kernel
theorem dX5_isSetting_64 : decode cX5_isSetting 64 = .ok (.invokestatic 36, 3) := by decide +kernel
theorem dX5_isSetting_67 : decode cX5_isSetting 67 = .ok (.ireturn, 1) := by decide +kernel
theorem dX5_isSetting_68 : decode cX5_isSetting 68 = .ok (.iload_n 1, 1) := by decide +kernel
theorem dX5_isSetting_69 : decode cX5_isSetting 69 = .ok (.i2l, 1) := by decide +kernel
theorem dX5_isSetting_70 : decode cX5_isSetting 70 = .ok (.lconst 0, 1) := by decide +kernel
theorem dX5_isSetting_71 : decode cX5_isSetting 71 = .ok (.ldc2_w 89, 3) := by decide +kernel
theorem dX5_isSetting_74 : decode cX5_isSetting 74 = .ok (.invokestatic 36, 3) := by decide +kernel
theorem dX5_isSetting_77 : decode cX5_isSetting 77 = .ok (.ireturn, 1) := by decide +kernel
theorem dX5_isSetting_78 : decode cX5_isSetting 78 = .ok (.iload_n 1, 1) := by decide +kernel
theorem dX5_isSetting_79 : decode cX5_isSetting 79 = .ok (.i2l, 1) := by decide +kernel
theorem dX5_isSetting_80 : decode cX5_isSetting 80 = .ok (.lconst 1, 1) := by decide +kernel
theorem dX5_isSetting_81 : decode cX5_isSetting 81 = .ok (.ldc2_w 89, 3) := by decide +kernel
theorem dX5_isSetting_84 : decode cX5_isSetting 84 = .ok (.invokestatic 36, 3) := by decide +kernel
theorem dX5_isSetting_87 : decode cX5_isSetting 87 = .ok (.ireturn, 1) := by decide +kernel
theorem dX5_isSetting_88 : decode cX5_isSetting 88 = .ok (.iload_n 0, 1) := by decide +kernel
theorem dX5_isSetting_89 : decode cX5_isSetting 89 = .ok (.iconst 5, 1) := by decide +kernel
theorem dX5_isSetting_90 : decode cX5_isSetting 90 = .ok (.if_icmp .ne 19, 3) := by decide +kernel
theorem dX5_isSetting_93 : decode cX5_isSetting 93 = .ok (.iload_n 1, 1) := by decide +kernel
theorem dX5_isSetting_94 : decode cX5_isSetting 94 = .ok (.i2l, 1) := by decide +kernel
theorem dX5_isSetting_95 : decode cX5_isSetting 95 = .ok (.lconst 1, 1) := by decide +kernel
theorem dX5_isSetting_96 : decode cX5_isSetting 96 = .ok (.ldc2_w 91, 3) := by decide +kernel
theorem dX5_isSetting_99 : decode cX5_isSetting 99 = .ok (.invokestatic 36, 3) := by decide +kernel
theorem dX5_isSetting_102 : decode cX5_isSetting 102 = .ok (.ifCond .eq 7, 3) := by decide +kernel
theorem dX5_isSetting_105 : decode cX5_isSetting 105 = .ok (.iconst 1, 1) := by decide +kernel
theorem dX5_isSetting_106 : decode cX5_isSetting 106 = .ok (.goto 4, 3) := by decide +kernel
theorem dX5_isSetting_109 : decode cX5_isSetting 109 = .ok (.iconst 0, 1) := by decide +kernel
theorem dX5_isSetting_110 : decode cX5_isSetting 110 = .ok (.ireturn, 1) := by decide +kernel
set_option maxRecDepth 20000 in
theorem ggX5_doSet_X5_isSetting : GoodIn wsX5_doSet wsX5_isSetting := goodIn_r _ [5, 6, 7, 8, 9, 10, 11, 4, 12] (by decide +kernel) (by decide +kernel)
set_option maxRecDepth 20000 in
theorem gX5_doSet_X5_isSetting : GoodIn wsX5_doSet (va_wsS RX5 93 yX5_isSetting wsX5_isSetting) := goodIn_app (goodIn_of _ (by decide +kernel)) ggX5_doSet_X5_isSetting
theorem dX5_doSet_0 : decode cX5_doSet 0 = .ok (.iload_n 1, 1) := by decide +kernel
theorem dX5_doSet_1 : decode cX5_doSet 1 = .ok (.iload_n 2, 1) := by decide +kernel
theorem dX5_doSet_2 : decode cX5_doSet 2 = .ok (.invokestatic 93, 3) := by decide +kernel
theorem dX5_doSet_5 : decode cX5_doSet 5 = .ok (.ifCond .ne 6, 3) := by decide +kernel
theorem dX5_doSet_8 : decode cX5_doSet 8 = .ok (.bipush (-2), 2) := by decide +kernel
theorem dX5_doSet_10 : decode cX5_doSet 10 = .ok (.ireturn, 1) := by decide +kernel
theorem dX5_doSet_11 : decode cX5_doSet 11 = .ok (.aload_n 0, 1) := by decide +kernel
theorem dX5_doSet_12 : decode cX5_doSet 12 = .ok (.getfield 7, 3) := by decide +kernel
theorem dX5_doSet_15 : decode cX5_doSet 15 = .ok (.iload_n 1, 1) := by decide +kernel
theorem dX5_doSet_16 : decode cX5_doSet 16 = .ok (.iaload, 1) := by decide +kernel
theorem dX5_doSet_17 : decode cX5_doSet 17 = .ok (.istore_n 3, 1) := by decide +kernel
theorem dX5_doSet_18 : decode cX5_doSet 18 = .ok (.aload_n 0, 1) := by decide +kernel
theorem dX5_doSet_19 : decode cX5_doSet 19 = .ok (.getfield 7, 3) := by decide +kernel
theorem dX5_doSet_22 : decode cX5_doSet 22 = .ok (.iload_n 1, 1) := by decide +kernel
theorem dX5_doSet_23 : decode cX5_doSet 23 = .ok (.iload_n 2, 1) := by decide +kernel
theorem dX5_doSet_24 : decode cX5_doSet 24 = .ok (.iastore, 1) := by decide +kernel
theorem dX5_doSet_25 : decode cX5_doSet 25 = .ok (.iload_n 3, 1) := by decide +kernel
theorem dX5_doSet_26 : decode cX5_doSet 26 = .ok (.ireturn, 1) := by decide +kernel
set_option maxRecDepth 20000 in
theorem ggX5_doArrive_X5_isLength : GoodIn wsX5_doArrive wsX5_isLength := goodIn_r _ [5, 6, 7, 8, 9, 4, 10] (by decide +kernel) (by decide +kernel)
set_option maxRecDepth 20000 in
theorem gX5_doArrive_X5_isLength : GoodIn wsX5_doArrive (va_wsS RX5 97 yX5_isLength wsX5_isLength) := goodIn_app (goodIn_of _ (by decide +kernel)) ggX5_doArrive_X5_isLength
set_option maxRecDepth 20000 in
theorem ggX5_doArrive_X5_back : GoodIn wsX5_doArrive wsX5_back := goodIn_r _ [14, 15, 16, 17, 4, 18, 1, 23, 24, 25, 26, 27, 28, 29, 30, 31, 32, 33, 34] (by decide +kernel) (by decide +kernel)
set_option maxRecDepth 20000 in
theorem gX5_doArrive_X5_back : GoodIn wsX5_doArrive (wsV RX5 56 RX5 yX5_back wsX5_back) := goodIn_app (goodIn_of _ (by decide +kernel)) ggX5_doArrive_X5_back
set_option maxRecDepth 20000 in
theorem ggX5_doArrive_X5_put : GoodIn wsX5_doArrive wsX5_put := goodIn_r _ [22, 1, 23, 24, 25, 26, 27, 28, 29, 30, 31, 32, 33, 34] (by decide +kernel) (by decide +kernel)
set_option maxRecDepth 20000 in
theorem gX5_doArrive_X5_put : GoodIn wsX5_doArrive (wsV RX5 44 RX5 yX5_put wsX5_put) := goodIn_app (goodIn_of _ (by decide +kernel)) ggX5_doArrive_X5_put
theorem dX5_doArrive_0 : decode cX5_doArrive 0 = .ok (.iload_n 1, 1) := by decide +kernel
theorem dX5_doArrive_1 : decode cX5_doArrive 1 = .ok (.invokestatic 97, 3) := by decide +kernel
theorem dX5_doArrive_4 : decode cX5_doArrive 4 = .ok (.ifCond .ne 6, 3) := by decide +kernel
theorem dX5_doArrive_7 : decode cX5_doArrive 7 = .ok (.bipush (-2), 2) := by decide +kernel
theorem dX5_doArrive_9 : decode cX5_doArrive 9 = .ok (.ireturn, 1) := by decide +kernel
theorem dX5_doArrive_10 : decode cX5_doArrive 10 = .ok (.aload_n 0, 1) := by decide +kernel
theorem dX5_doArrive_11 : decode cX5_doArrive 11 = .ok (.getfield 7, 3) := by decide +kernel
theorem dX5_doArrive_14 : decode cX5_doArrive 14 = .ok (.bipush 9, 2) := by decide +kernel
theorem dX5_doArrive_16 : decode cX5_doArrive 16 = .ok (.iaload, 1) := by decide +kernel
theorem dX5_doArrive_17 : decode cX5_doArrive 17 = .ok (.istore_n 2, 1) := by decide +kernel
theorem dX5_doArrive_18 : decode cX5_doArrive 18 = .ok (.iload_n 2, 1) := by decide +kernel
theorem dX5_doArrive_19 : decode cX5_doArrive 19 = .ok (.bipush 8, 2) := by decide +kernel
theorem dX5_doArrive_21 : decode cX5_doArrive 21 = .ok (.if_icmp .ne 6, 3) := by decide +kernel
theorem dX5_doArrive_24 : decode cX5_doArrive 24 = .ok (.bipush (-4), 2) := by decide +kernel
theorem dX5_doArrive_26 : decode cX5_doArrive 26 = .ok (.ireturn, 1) := by decide +kernel
theorem dX5_doArrive_27 : decode cX5_doArrive 27 = .ok (.iload_n 2, 1) := by decide +kernel
theorem dX5_doArrive_28 : decode cX5_doArrive 28 = .ok (.ifCond .le 17, 3) := by decide +kernel
theorem dX5_doArrive_31 : decode cX5_doArrive 31 = .ok (.aload_n 0, 1) := by decide +kernel
theorem dX5_doArrive_32 : decode cX5_doArrive 32 = .ok (.iload_n 2, 1) := by decide +kernel
theorem dX5_doArrive_33 : decode cX5_doArrive 33 = .ok (.iconst 1, 1) := by decide +kernel
theorem dX5_doArrive_34 : decode cX5_doArrive 34 = .ok (.isub, 1) := by decide +kernel
theorem dX5_doArrive_35 : decode cX5_doArrive 35 = .ok (.invokevirtual 56, 3) := by decide +kernel
theorem dX5_doArrive_38 : decode cX5_doArrive 38 = .ok (.iconst 1, 1) := by decide +kernel
theorem dX5_doArrive_39 : decode cX5_doArrive 39 = .ok (.if_icmp .ge 6, 3) := by decide +kernel
theorem dX5_doArrive_42 : decode cX5_doArrive 42 = .ok (.bipush (-5), 2) := by decide +kernel
theorem dX5_doArrive_44 : decode cX5_doArrive 44 = .ok (.ireturn, 1) := by decide +kernel
theorem dX5_doArrive_45 : decode cX5_doArrive 45 = .ok (.aload_n 0, 1) := by decide +kernel
theorem dX5_doArrive_46 : decode cX5_doArrive 46 = .ok (.iload_n 2, 1) := by decide +kernel
theorem dX5_doArrive_47 : decode cX5_doArrive 47 = .ok (.iconst 0, 1) := by decide +kernel
theorem dX5_doArrive_48 : decode cX5_doArrive 48 = .ok (.iconst 0, 1) := by decide +kernel
theorem dX5_doArrive_49 : decode cX5_doArrive 49 = .ok (.invokevirtual 44, 3) := by decide +kernel
theorem dX5_doArrive_52 : decode cX5_doArrive 52 = .ok (.aload_n 0, 1) := by decide +kernel
theorem dX5_doArrive_53 : decode cX5_doArrive 53 = .ok (.iload_n 2, 1) := by decide +kernel
theorem dX5_doArrive_54 : decode cX5_doArrive 54 = .ok (.iconst 1, 1) := by decide +kernel
theorem dX5_doArrive_55 : decode cX5_doArrive 55 = .ok (.iload_n 1, 1) := by decide +kernel
theorem dX5_doArrive_56 : decode cX5_doArrive 56 = .ok (.invokevirtual 44, 3) := by decide +kernel
theorem dX5_doArrive_59 : decode cX5_doArrive 59 = .ok (.aload_n 0, 1) := by decide +kernel
theorem dX5_doArrive_60 : decode cX5_doArrive 60 = .ok (.iload_n 2, 1) := by decide +kernel
theorem dX5_doArrive_61 : decode cX5_doArrive 61 = .ok (.iconst 2, 1) := by decide +kernel
theorem dX5_doArrive_62 : decode cX5_doArrive 62 = .ok (.iconst 0, 1) := by decide +kernel
theorem dX5_doArrive_63 : decode cX5_doArrive 63 = .ok (.invokevirtual 44, 3) := by decide +kernel
theorem dX5_doArrive_66 : decode cX5_doArrive 66 = .ok (.aload_n 0, 1) := by decide +kernel
theorem dX5_doArrive_67 : decode cX5_doArrive 67 = .ok (.iload_n 2, 1) := by decide +kernel
theorem dX5_doArrive_68 : decode cX5_doArrive 68 = .ok (.iconst 3, 1) := by decide +kernel
theorem dX5_doArrive_69 : decode cX5_doArrive 69 = .ok (.bipush (-6), 2) := by decide +kernel
theorem dX5_doArrive_71 : decode cX5_doArrive 71 = .ok (.invokevirtual 44, 3) := by decide +kernel
theorem dX5_doArrive_74 : decode cX5_doArrive 74 = .ok (.aload_n 0, 1) := by decide +kernel
theorem dX5_doArrive_75 : decode cX5_doArrive 75 = .ok (.iload_n 2, 1) := by decide +kernel
theorem dX5_doArrive_76 : decode cX5_doArrive 76 = .ok (.iconst 4, 1) := by decide +kernel
theorem dX5_doArrive_77 : decode cX5_doArrive 77 = .ok (.iconst 0, 1) := by decide +kernel
theorem dX5_doArrive_78 : decode cX5_doArrive 78 = .ok (.invokevirtual 44, 3) := by decide +kernel
theorem dX5_doArrive_81 : decode cX5_doArrive 81 = .ok (.aload_n 0, 1) := by decide +kernel
theorem dX5_doArrive_82 : decode cX5_doArrive 82 = .ok (.iload_n 2, 1) := by decide +kernel
theorem dX5_doArrive_83 : decode cX5_doArrive 83 = .ok (.iconst 5, 1) := by decide +kernel
theorem dX5_doArrive_84 : decode cX5_doArrive 84 = .ok (.aload_n 0, 1) := by decide +kernel
theorem dX5_doArrive_85 : decode cX5_doArrive 85 = .ok (.getfield 7, 3) := by decide +kernel
theorem dX5_doArrive_88 : decode cX5_doArrive 88 = .ok (.bipush 10, 2) := by decide +kernel
theorem dX5_doArrive_90 : decode cX5_doArrive 90 = .ok (.iaload, 1) := by decide +kernel
theorem dX5_doArrive_91 : decode cX5_doArrive 91 = .ok (.invokevirtual 44, 3) := by decide +kernel
theorem dX5_doArrive_94 : decode cX5_doArrive 94 = .ok (.aload_n 0, 1) := by decide +kernel
theorem dX5_doArrive_95 : decode cX5_doArrive 95 = .ok (.getfield 7, 3) := by decide +kernel
theorem dX5_doArrive_98 : decode cX5_doArrive 98 = .ok (.bipush 9, 2) := by decide +kernel
theorem dX5_doArrive_100 : decode cX5_doArrive 100 = .ok (.dup2, 1) := by decide +kernel
theorem dX5_doArrive_101 : decode cX5_doArrive 101 = .ok (.iaload, 1) := by decide +kernel
theorem dX5_doArrive_102 : decode cX5_doArrive 102 = .ok (.iconst 1, 1) := by decide +kernel
theorem dX5_doArrive_103 : decode cX5_doArrive 103 = .ok (.iadd, 1) := by decide +kernel
theorem dX5_doArrive_104 : decode cX5_doArrive 104 = .ok (.iastore, 1) := by decide +kernel
theorem dX5_doArrive_105 : decode cX5_doArrive 105 = .ok (.aload_n 0, 1) := by decide +kernel
theorem dX5_doArrive_106 : decode cX5_doArrive 106 = .ok (.getfield 7, 3) := by decide +kernel
theorem dX5_doArrive_109 : decode cX5_doArrive 109 = .ok (.bipush 10, 2) := by decide +kernel
theorem dX5_doArrive_111 : decode cX5_doArrive 111 = .ok (.dup2, 1) := by decide +kernel
theorem dX5_doArrive_112 : decode cX5_doArrive 112 = .ok (.iaload, 1) := by decide +kernel
theorem dX5_doArrive_113 : decode cX5_doArrive 113 = .ok (.iconst 1, 1) := by decide +kernel
theorem dX5_doArrive_114 : decode cX5_doArrive 114 = .ok (.iadd, 1) := by decide +kernel
theorem dX5_doArrive_115 : decode cX5_doArrive 115 = .ok (.iastore, 1) := by decide +kernel
theorem dX5_doArrive_116 : decode cX5_doArrive 116 = .ok (.iload_n 2, 1) := by decide +kernel
theorem dX5_doArrive_117 : decode cX5_doArrive 117 = .ok (.ireturn, 1) := by decide +kernel
set_option maxRecDepth 20000 in
theorem ggX5_doTurn_X5_isBox : GoodIn wsX5_doTurn wsX5_isBox := goodIn_r _ [6, 1, 7, 8, 5, 9, 27, 28, 29, 30, 31, 32, 33, 34, 35, 36, 37, 38] (by decide +kernel) (by decide +kernel)
set_option maxRecDepth 20000 in
theorem gX5_doTurn_X5_isBox : GoodIn wsX5_doTurn (wsV RX5 101 RX5 yX5_isBox wsX5_isBox) := goodIn_app (goodIn_of _ (by decide +kernel)) ggX5_doTurn_X5_isBox
set_option maxRecDepth 20000 in
theorem ggX5_doTurn_X5_isLength : GoodIn wsX5_doTurn wsX5_isLength := goodIn_r _ [12, 13, 14, 7, 8, 5, 9] (by decide +kernel) (by decide +kernel)
set_option maxRecDepth 20000 in
theorem gX5_doTurn_X5_isLength : GoodIn wsX5_doTurn (va_wsS RX5 97 yX5_isLength wsX5_isLength) := goodIn_app (goodIn_of _ (by decide +kernel)) ggX5_doTurn_X5_isLength
set_option maxRecDepth 20000 in
theorem ggX5_doTurn_X5_get : GoodIn wsX5_doTurn wsX5_get := goodIn_r _ [18, 1, 27, 28, 29, 30, 31, 32, 33, 34, 35, 36, 37, 38] (by decide +kernel) (by decide +kernel)
set_option maxRecDepth 20000 in
theorem gX5_doTurn_X5_get : GoodIn wsX5_doTurn (wsV RX5 32 RX5 yX5_get wsX5_get) := goodIn_app (goodIn_of _ (by decide +kernel)) ggX5_doTurn_X5_get
set_option maxRecDepth 20000 in
theorem ggX5_doTurn_X5_back : GoodIn wsX5_doTurn wsX5_back := goodIn_r _ [22, 15, 16, 17, 5, 18, 1, 27, 28, 29, 30, 31, 32, 33, 34, 35, 36, 37, 38] (by decide +kernel) (by decide +kernel)
set_option maxRecDepth 20000 in
theorem gX5_doTurn_X5_back : GoodIn wsX5_doTurn (wsV RX5 56 RX5 yX5_back wsX5_back) := goodIn_app (goodIn_of _ (by decide +kernel)) ggX5_doTurn_X5_back
set_option maxRecDepth 20000 in
theorem ggX5_doTurn_X5_put : GoodIn wsX5_doTurn wsX5_put := goodIn_r _ [26, 1, 27, 28, 29, 30, 31, 32, 33, 34, 35, 36, 37, 38] (by decide +kernel) (by decide +kernel)
set_option maxRecDepth 20000 in
theorem gX5_doTurn_X5_put : GoodIn wsX5_doTurn (wsV RX5 44 RX5 yX5_put wsX5_put) := goodIn_app (goodIn_of _ (by decide +kernel)) ggX5_doTurn_X5_put
theorem dX5_doTurn_0 : decode cX5_doTurn 0 = .ok (.aload_n 0, 1) := by decide +kernel
theorem dX5_doTurn_1 : decode cX5_doTurn 1 = .ok (.iload_n 1, 1) := by decide +kernel
theorem dX5_doTurn_2 : decode cX5_doTurn 2 = .ok (.invokevirtual 101, 3) := by decide +kernel
theorem dX5_doTurn_5 : decode cX5_doTurn 5 = .ok (.ifCond .ne 5, 3) := by decide +kernel
theorem dX5_doTurn_8 : decode cX5_doTurn 8 = .ok (.iconst (-1), 1) := by decide +kernel
theorem dX5_doTurn_9 : decode cX5_doTurn 9 = .ok (.ireturn, 1) := by decide +kernel
theorem dX5_doTurn_10 : decode cX5_doTurn 10 = .ok (.iload_n 2, 1) := by decide +kernel
theorem dX5_doTurn_11 : decode cX5_doTurn 11 = .ok (.invokestatic 97, 3) := by decide +kernel
theorem dX5_doTurn_14 : decode cX5_doTurn 14 = .ok (.ifCond .ne 6, 3) := by decide +kernel
theorem dX5_doTurn_17 : decode cX5_doTurn 17 = .ok (.bipush (-2), 2) := by decide +kernel
theorem dX5_doTurn_19 : decode cX5_doTurn 19 = .ok (.ireturn, 1) := by decide +kernel
theorem dX5_doTurn_20 : decode cX5_doTurn 20 = .ok (.iload_n 2, 1) := by decide +kernel
theorem dX5_doTurn_21 : decode cX5_doTurn 21 = .ok (.aload_n 0, 1) := by decide +kernel
theorem dX5_doTurn_22 : decode cX5_doTurn 22 = .ok (.iload_n 1, 1) := by decide +kernel
theorem dX5_doTurn_23 : decode cX5_doTurn 23 = .ok (.iconst 1, 1) := by decide +kernel
theorem dX5_doTurn_24 : decode cX5_doTurn 24 = .ok (.invokevirtual 32, 3) := by decide +kernel
theorem dX5_doTurn_27 : decode cX5_doTurn 27 = .ok (.isub, 1) := by decide +kernel
theorem dX5_doTurn_28 : decode cX5_doTurn 28 = .ok (.istore_n 3, 1) := by decide +kernel
theorem dX5_doTurn_29 : decode cX5_doTurn 29 = .ok (.aload_n 0, 1) := by decide +kernel
theorem dX5_doTurn_30 : decode cX5_doTurn 30 = .ok (.iload_n 1, 1) := by decide +kernel
theorem dX5_doTurn_31 : decode cX5_doTurn 31 = .ok (.iconst 0, 1) := by decide +kernel
theorem dX5_doTurn_32 : decode cX5_doTurn 32 = .ok (.invokevirtual 32, 3) := by decide +kernel
theorem dX5_doTurn_35 : decode cX5_doTurn 35 = .ok (.iload_n 3, 1) := by decide +kernel
theorem dX5_doTurn_36 : decode cX5_doTurn 36 = .ok (.ifCond .ge 12, 3) := by decide +kernel
theorem dX5_doTurn_39 : decode cX5_doTurn 39 = .ok (.iconst 1, 1) := by decide +kernel
theorem dX5_doTurn_40 : decode cX5_doTurn 40 = .ok (.iload_n 3, 1) := by decide +kernel
theorem dX5_doTurn_41 : decode cX5_doTurn 41 = .ok (.isub, 1) := by decide +kernel
theorem dX5_doTurn_42 : decode cX5_doTurn 42 = .ok (.iconst 2, 1) := by decide +kernel
theorem dX5_doTurn_43 : decode cX5_doTurn 43 = .ok (.idiv, 1) := by decide +kernel
theorem dX5_doTurn_44 : decode cX5_doTurn 44 = .ok (.ineg, 1) := by decide +kernel
theorem dX5_doTurn_45 : decode cX5_doTurn 45 = .ok (.goto 6, 3) := by decide +kernel
theorem dX5_doTurn_48 : decode cX5_doTurn 48 = .ok (.iload_n 3, 1) := by decide +kernel
theorem dX5_doTurn_49 : decode cX5_doTurn 49 = .ok (.iconst 2, 1) := by decide +kernel
theorem dX5_doTurn_50 : decode cX5_doTurn 50 = .ok (.idiv, 1) := by decide +kernel
theorem dX5_doTurn_51 : decode cX5_doTurn 51 = .ok (.iadd, 1) := by decide +kernel
theorem dX5_doTurn_52 : decode cX5_doTurn 52 = .ok (.istore 4, 2) := by decide +kernel
theorem dX5_doTurn_54 : decode cX5_doTurn 54 = .ok (.iload_n 1, 1) := by decide +kernel
theorem dX5_doTurn_55 : decode cX5_doTurn 55 = .ok (.ifCond .eq 17, 3) := by decide +kernel
theorem dX5_doTurn_58 : decode cX5_doTurn 58 = .ok (.aload_n 0, 1) := by decide +kernel
theorem dX5_doTurn_59 : decode cX5_doTurn 59 = .ok (.iload_n 1, 1) := by decide +kernel
theorem dX5_doTurn_60 : decode cX5_doTurn 60 = .ok (.iconst 1, 1) := by decide +kernel
theorem dX5_doTurn_61 : decode cX5_doTurn 61 = .ok (.isub, 1) := by decide +kernel
theorem dX5_doTurn_62 : decode cX5_doTurn 62 = .ok (.invokevirtual 56, 3) := by decide +kernel
theorem dX5_doTurn_65 : decode cX5_doTurn 65 = .ok (.iload 4, 2) := by decide +kernel
theorem dX5_doTurn_67 : decode cX5_doTurn 67 = .ok (.isub, 1) := by decide +kernel
theorem dX5_doTurn_68 : decode cX5_doTurn 68 = .ok (.iconst 1, 1) := by decide +kernel
theorem dX5_doTurn_69 : decode cX5_doTurn 69 = .ok (.if_icmp .lt 7, 3) := by decide +kernel
theorem dX5_doTurn_72 : decode cX5_doTurn 72 = .ok (.iconst 1, 1) := by decide +kernel
theorem dX5_doTurn_73 : decode cX5_doTurn 73 = .ok (.goto 4, 3) := by decide +kernel
theorem dX5_doTurn_76 : decode cX5_doTurn 76 = .ok (.iconst 0, 1) := by decide +kernel
theorem dX5_doTurn_77 : decode cX5_doTurn 77 = .ok (.istore 5, 2) := by decide +kernel
theorem dX5_doTurn_79 : decode cX5_doTurn 79 = .ok (.iload_n 1, 1) := by decide +kernel
theorem dX5_doTurn_80 : decode cX5_doTurn 80 = .ok (.aload_n 0, 1) := by decide +kernel
theorem dX5_doTurn_81 : decode cX5_doTurn 81 = .ok (.getfield 7, 3) := by decide +kernel
theorem dX5_doTurn_84 : decode cX5_doTurn 84 = .ok (.bipush 9, 2) := by decide +kernel
theorem dX5_doTurn_86 : decode cX5_doTurn 86 = .ok (.iaload, 1) := by decide +kernel
theorem dX5_doTurn_87 : decode cX5_doTurn 87 = .ok (.iconst 1, 1) := by decide +kernel
theorem dX5_doTurn_88 : decode cX5_doTurn 88 = .ok (.isub, 1) := by decide +kernel
theorem dX5_doTurn_89 : decode cX5_doTurn 89 = .ok (.if_icmp .eq 20, 3) := by decide +kernel
theorem dX5_doTurn_92 : decode cX5_doTurn 92 = .ok (.iload 4, 2) := by decide +kernel
theorem dX5_doTurn_94 : decode cX5_doTurn 94 = .ok (.iload_n 2, 1) := by decide +kernel
theorem dX5_doTurn_95 : decode cX5_doTurn 95 = .ok (.isub, 1) := by decide +kernel
theorem dX5_doTurn_96 : decode cX5_doTurn 96 = .ok (.aload_n 0, 1) := by decide +kernel
theorem dX5_doTurn_97 : decode cX5_doTurn 97 = .ok (.iload_n 1, 1) := by decide +kernel
theorem dX5_doTurn_98 : decode cX5_doTurn 98 = .ok (.iconst 1, 1) := by decide +kernel
theorem dX5_doTurn_99 : decode cX5_doTurn 99 = .ok (.iadd, 1) := by decide +kernel
theorem dX5_doTurn_100 : decode cX5_doTurn 100 = .ok (.iconst 0, 1) := by decide +kernel
theorem dX5_doTurn_101 : decode cX5_doTurn 101 = .ok (.invokevirtual 32, 3) := by decide +kernel
theorem dX5_doTurn_104 : decode cX5_doTurn 104 = .ok (.isub, 1) := by decide +kernel
theorem dX5_doTurn_105 : decode cX5_doTurn 105 = .ok (.iconst 1, 1) := by decide +kernel
theorem dX5_doTurn_106 : decode cX5_doTurn 106 = .ok (.if_icmp .lt 7, 3) := by decide +kernel
theorem dX5_doTurn_109 : decode cX5_doTurn 109 = .ok (.iconst 1, 1) := by decide +kernel
theorem dX5_doTurn_110 : decode cX5_doTurn 110 = .ok (.goto 4, 3) := by decide +kernel
theorem dX5_doTurn_113 : decode cX5_doTurn 113 = .ok (.iconst 0, 1) := by decide +kernel
theorem dX5_doTurn_114 : decode cX5_doTurn 114 = .ok (.istore 6, 2) := by decide +kernel
theorem dX5_doTurn_116 : decode cX5_doTurn 116 = .ok (.iload 5, 2) := by decide +kernel
theorem dX5_doTurn_118 : decode cX5_doTurn 118 = .ok (.ifCond .eq 8, 3) := by decide +kernel
theorem dX5_doTurn_121 : decode cX5_doTurn 121 = .ok (.iload 6, 2) := by decide +kernel
theorem dX5_doTurn_123 : decode cX5_doTurn 123 = .ok (.ifCond .ne 6, 3) := by decide +kernel
theorem dX5_doTurn_126 : decode cX5_doTurn 126 = .ok (.bipush (-5), 2) := by decide +kernel
theorem dX5_doTurn_128 : decode cX5_doTurn 128 = .ok (.ireturn, 1) := by decide +kernel
theorem dX5_doTurn_129 : decode cX5_doTurn 129 = .ok (.aload_n 0, 1) := by decide +kernel
theorem dX5_doTurn_130 : decode cX5_doTurn 130 = .ok (.iload_n 1, 1) := by decide +kernel
theorem dX5_doTurn_131 : decode cX5_doTurn 131 = .ok (.iconst 0, 1) := by decide +kernel
theorem dX5_doTurn_132 : decode cX5_doTurn 132 = .ok (.iload 4, 2) := by decide +kernel
theorem dX5_doTurn_134 : decode cX5_doTurn 134 = .ok (.invokevirtual 44, 3) := by decide +kernel
theorem dX5_doTurn_137 : decode cX5_doTurn 137 = .ok (.aload_n 0, 1) := by decide +kernel
theorem dX5_doTurn_138 : decode cX5_doTurn 138 = .ok (.iload_n 1, 1) := by decide +kernel
theorem dX5_doTurn_139 : decode cX5_doTurn 139 = .ok (.iconst 1, 1) := by decide +kernel
theorem dX5_doTurn_140 : decode cX5_doTurn 140 = .ok (.iload_n 2, 1) := by decide +kernel
theorem dX5_doTurn_141 : decode cX5_doTurn 141 = .ok (.invokevirtual 44, 3) := by decide +kernel
theorem dX5_doTurn_144 : decode cX5_doTurn 144 = .ok (.iload 4, 2) := by decide +kernel
theorem dX5_doTurn_146 : decode cX5_doTurn 146 = .ok (.sipush 1000, 3) := by decide +kernel
theorem dX5_doTurn_149 : decode cX5_doTurn 149 = .ok (.iadd, 1) := by decide +kernel
theorem dX5_doTurn_150 : decode cX5_doTurn 150 = .ok (.ireturn, 1) := by decide +kernel
set_option maxRecDepth 20000 in
theorem ggX5_areTicks_X5_in : GoodIn wsX5_areTicks wsX5_in := goodIn_r _ [5] (by decide +kernel) (by decide +kernel)
set_option maxRecDepth 20000 in
theorem gX5_areTicks_X5_in : GoodIn wsX5_areTicks (va_wsS RX5 36 yX5_in wsX5_in) := goodIn_app (goodIn_of _ (by decide +kernel)) ggX5_areTicks_X5_in
theorem dX5_areTicks_0 : decode cX5_areTicks 0 = .ok (.iload_n 0, 1) := by decide +kernel
theorem dX5_areTicks_1 : decode cX5_areTicks 1 = .ok (.i2l, 1) := by decide +kernel
theorem dX5_areTicks_2 : decode cX5_areTicks 2 = .ok (.lconst 1, 1) := by decide +kernel
theorem dX5_areTicks_3 : decode cX5_areTicks 3 = .ok (.ldc2_w 104, 3) := by decide +kernel
theorem dX5_areTicks_6 : decode cX5_areTicks 6 = .ok (.invokestatic 36, 3) := by decide +kernel
theorem dX5_areTicks_9 : decode cX5_areTicks 9 = .ok (.ireturn, 1) := by decide +kernel
set_option maxRecDepth 20000 in
theorem ggX5_doPass_X5_areTicks : GoodIn wsX5_doPass wsX5_areTicks := goodIn_r _ [5, 6, 7, 8, 4, 9] (by decide +kernel) (by decide +kernel)
set_option maxRecDepth 20000 in
theorem gX5_doPass_X5_areTicks : GoodIn wsX5_doPass (va_wsS RX5 106 yX5_areTicks wsX5_areTicks) := goodIn_app (goodIn_of _ (by decide +kernel)) ggX5_doPass_X5_areTicks
set_option maxRecDepth 20000 in
theorem ggX5_doPass_X5_passes : GoodIn wsX5_doPass wsX5_passes := goodIn_r _ [13, 14, 15, 16, 4, 17, 1, 18, 19, 20, 21, 22, 23, 24, 25, 26, 27, 28, 29, 30, 31, 32, 33, 34, 35, 36, 37, 38, 39, 40, 41, 42, 43, 44, 45, 46, 47, 48, 49, 50, 51, 52, 53, 54, 55, 56, 57, 58, 59, 60, 61, 62, 63, 64, 65, 7, 8, 9, 66, 67, 68, 69, 70, 71, 72, 73, 74, 75, 76, 77] (by decide +kernel) (by decide +kernel)
set_option maxRecDepth 20000 in
theorem gX5_doPass_X5_passes : GoodIn wsX5_doPass (wsV RX5 109 RX5 yX5_passes wsX5_passes) := goodIn_app (goodIn_of _ (by decide +kernel)) ggX5_doPass_X5_passes
theorem dX5_doPass_0 : decode cX5_doPass 0 = .ok (.iload_n 1, 1) := by decide +kernel
theorem dX5_doPass_1 : decode cX5_doPass 1 = .ok (.invokestatic 106, 3) := by decide +kernel
theorem dX5_doPass_4 : decode cX5_doPass 4 = .ok (.ifCond .ne 6, 3) := by decide +kernel
theorem dX5_doPass_7 : decode cX5_doPass 7 = .ok (.bipush (-2), 2) := by decide +kernel
theorem dX5_doPass_9 : decode cX5_doPass 9 = .ok (.ireturn, 1) := by decide +kernel
theorem dX5_doPass_10 : decode cX5_doPass 10 = .ok (.aload_n 0, 1) := by decide +kernel
theorem dX5_doPass_11 : decode cX5_doPass 11 = .ok (.getfield 7, 3) := by decide +kernel
theorem dX5_doPass_14 : decode cX5_doPass 14 = .ok (.bipush 8, 2) := by decide +kernel
theorem dX5_doPass_16 : decode cX5_doPass 16 = .ok (.iaload, 1) := by decide +kernel
theorem dX5_doPass_17 : decode cX5_doPass 17 = .ok (.iload_n 1, 1) := by decide +kernel
theorem dX5_doPass_18 : decode cX5_doPass 18 = .ok (.iadd, 1) := by decide +kernel
theorem dX5_doPass_19 : decode cX5_doPass 19 = .ok (.sipush 20000, 3) := by decide +kernel
theorem dX5_doPass_22 : decode cX5_doPass 22 = .ok (.if_icmp .le 8, 3) := by decide +kernel
theorem dX5_doPass_25 : decode cX5_doPass 25 = .ok (.bipush (-4), 2) := by decide +kernel
theorem dX5_doPass_27 : decode cX5_doPass 27 = .ok (.goto 8, 3) := by decide +kernel
theorem dX5_doPass_30 : decode cX5_doPass 30 = .ok (.aload_n 0, 1) := by decide +kernel
theorem dX5_doPass_31 : decode cX5_doPass 31 = .ok (.iload_n 1, 1) := by decide +kernel
theorem dX5_doPass_32 : decode cX5_doPass 32 = .ok (.invokevirtual 109, 3) := by decide +kernel
theorem dX5_doPass_35 : decode cX5_doPass 35 = .ok (.ireturn, 1) := by decide +kernel
set_option maxRecDepth 20000 in
theorem ggX5_set_X5_keep : GoodIn wsX5_set wsX5_keep := goodIn_r _ [5, 6, 7, 28, 29, 30, 31, 32, 33, 34, 35, 36, 37, 38, 39] (by decide +kernel) (by decide +kernel)
set_option maxRecDepth 20000 in
theorem gX5_set_X5_keep : GoodIn wsX5_set (wsV RX5 112 RX5 yX5_keep wsX5_keep) := goodIn_app (goodIn_of _ (by decide +kernel)) ggX5_set_X5_keep
set_option maxRecDepth 20000 in
theorem ggX5_set_X5_doSet : GoodIn wsX5_set wsX5_doSet := goodIn_r _ [11, 7, 12, 13, 4, 14, 15, 16, 17, 18, 19, 20, 21, 28, 29, 30, 31, 32, 33, 34, 35, 36, 37, 38, 39] (by decide +kernel) (by decide +kernel)
set_option maxRecDepth 20000 in
theorem gX5_set_X5_doSet : GoodIn wsX5_set (wsV RX5 115 RX5 yX5_doSet wsX5_doSet) := goodIn_app (goodIn_of _ (by decide +kernel)) ggX5_set_X5_doSet
set_option maxRecDepth 20000 in
theorem ggX5_set_X5_changed : GoodIn wsX5_set wsX5_changed := goodIn_r _ [25, 26, 27, 6, 28, 29, 30, 31, 32, 33, 34, 35, 36, 37, 38, 39] (by decide +kernel) (by decide +kernel)
set_option maxRecDepth 20000 in
theorem gX5_set_X5_changed : GoodIn wsX5_set (wsV RX5 118 RX5 yX5_changed wsX5_changed) := goodIn_app (goodIn_of _ (by decide +kernel)) ggX5_set_X5_changed
theorem dX5_set_0 : decode cX5_set 0 = .ok (.aload_n 0, 1) := by decide +kernel
theorem dX5_set_1 : decode cX5_set 1 = .ok (.invokevirtual 112, 3) := by decide +kernel
theorem dX5_set_4 : decode cX5_set 4 = .ok (.aload_n 0, 1) := by decide +kernel
theorem dX5_set_5 : decode cX5_set 5 = .ok (.aload_n 0, 1) := by decide +kernel
theorem dX5_set_6 : decode cX5_set 6 = .ok (.iload_n 1, 1) := by decide +kernel
theorem dX5_set_7 : decode cX5_set 7 = .ok (.iload_n 2, 1) := by decide +kernel
theorem dX5_set_8 : decode cX5_set 8 = .ok (.invokevirtual 115, 3) := by decide +kernel
theorem dX5_set_11 : decode cX5_set 11 = .ok (.invokevirtual 118, 3) := by decide +kernel
theorem dX5_set_14 : decode cX5_set 14 = .ok (.ireturn, 1) := by decide +kernel
set_option maxRecDepth 20000 in
theorem ggX5_arrive_X5_keep : GoodIn wsX5_arrive wsX5_keep := goodIn_r _ [5, 6, 7, 38, 39, 40, 41, 42, 43, 44, 45, 46, 47, 48, 49] (by decide +kernel) (by decide +kernel)
set_option maxRecDepth 20000 in
theorem gX5_arrive_X5_keep : GoodIn wsX5_arrive (wsV RX5 112 RX5 yX5_keep wsX5_keep) := goodIn_app (goodIn_of _ (by decide +kernel)) ggX5_arrive_X5_keep
set_option maxRecDepth 20000 in
theorem ggX5_arrive_X5_doArrive : GoodIn wsX5_arrive wsX5_doArrive := goodIn_r _ [11, 7, 12, 13, 4, 14, 15, 16, 17, 18, 19, 20, 21, 22, 23, 24, 25, 26, 27, 28, 29, 30, 31, 38, 39, 40, 41, 42, 43, 44, 45, 46, 47, 48, 49] (by decide +kernel) (by decide +kernel)
set_option maxRecDepth 20000 in
theorem gX5_arrive_X5_doArrive : GoodIn wsX5_arrive (wsV RX5 121 RX5 yX5_doArrive wsX5_doArrive) := goodIn_app (goodIn_of _ (by decide +kernel)) ggX5_arrive_X5_doArrive
set_option maxRecDepth 20000 in
theorem ggX5_arrive_X5_changed : GoodIn wsX5_arrive wsX5_changed := goodIn_r _ [35, 36, 37, 6, 38, 39, 40, 41, 42, 43, 44, 45, 46, 47, 48, 49] (by decide +kernel) (by decide +kernel)
set_option maxRecDepth 20000 in
theorem gX5_arrive_X5_changed : GoodIn wsX5_arrive (wsV RX5 118 RX5 yX5_changed wsX5_changed) := goodIn_app (goodIn_of _ (by decide +kernel)) ggX5_arrive_X5_changed
theorem dX5_arrive_0 : decode cX5_arrive 0 = .ok (.aload_n 0, 1) := by decide +kernel
theorem dX5_arrive_1 : decode cX5_arrive 1 = .ok (.invokevirtual 112, 3) := by decide +kernel
theorem dX5_arrive_4 : decode cX5_arrive 4 = .ok (.aload_n 0, 1) := by decide +kernel
theorem dX5_arrive_5 : decode cX5_arrive 5 = .ok (.aload_n 0, 1) := by decide +kernel
theorem dX5_arrive_6 : decode cX5_arrive 6 = .ok (.iload_n 1, 1) := by decide +kernel
theorem dX5_arrive_7 : decode cX5_arrive 7 = .ok (.invokevirtual 121, 3) := by decide +kernel
theorem dX5_arrive_10 : decode cX5_arrive 10 = .ok (.invokevirtual 118, 3) := by decide +kernel
theorem dX5_arrive_13 : decode cX5_arrive 13 = .ok (.ireturn, 1) := by decide +kernel
set_option maxRecDepth 20000 in
theorem ggX5_turn_X5_keep : GoodIn wsX5_turn wsX5_keep := goodIn_r _ [5, 6, 7, 42, 43, 44, 45, 46, 47, 48, 49, 50, 51, 52, 53] (by decide +kernel) (by decide +kernel)
set_option maxRecDepth 20000 in
theorem gX5_turn_X5_keep : GoodIn wsX5_turn (wsV RX5 112 RX5 yX5_keep wsX5_keep) := goodIn_app (goodIn_of _ (by decide +kernel)) ggX5_turn_X5_keep
set_option maxRecDepth 20000 in
theorem ggX5_turn_X5_doTurn : GoodIn wsX5_turn wsX5_doTurn := goodIn_r _ [11, 7, 12, 13, 14, 4, 15, 16, 17, 18, 19, 20, 21, 22, 23, 24, 25, 26, 27, 28, 29, 30, 31, 32, 33, 34, 35, 42, 43, 44, 45, 46, 47, 48, 49, 50, 51, 52, 53] (by decide +kernel) (by decide +kernel)
set_option maxRecDepth 20000 in
theorem gX5_turn_X5_doTurn : GoodIn wsX5_turn (wsV RX5 124 RX5 yX5_doTurn wsX5_doTurn) := goodIn_app (goodIn_of _ (by decide +kernel)) ggX5_turn_X5_doTurn
set_option maxRecDepth 20000 in
theorem ggX5_turn_X5_changed : GoodIn wsX5_turn wsX5_changed := goodIn_r _ [39, 40, 41, 6, 42, 43, 44, 45, 46, 47, 48, 49, 50, 51, 52, 53] (by decide +kernel) (by decide +kernel)
set_option maxRecDepth 20000 in
theorem gX5_turn_X5_changed : GoodIn wsX5_turn (wsV RX5 118 RX5 yX5_changed wsX5_changed) := goodIn_app (goodIn_of _ (by decide +kernel)) ggX5_turn_X5_changed
theorem dX5_turn_0 : decode cX5_turn 0 = .ok (.aload_n 0, 1) := by decide +kernel
theorem dX5_turn_1 : decode cX5_turn 1 = .ok (.invokevirtual 112, 3) := by decide +kernel
theorem dX5_turn_4 : decode cX5_turn 4 = .ok (.aload_n 0, 1) := by decide +kernel
theorem dX5_turn_5 : decode cX5_turn 5 = .ok (.aload_n 0, 1) := by decide +kernel
theorem dX5_turn_6 : decode cX5_turn 6 = .ok (.iload_n 1, 1) := by decide +kernel
theorem dX5_turn_7 : decode cX5_turn 7 = .ok (.iload_n 2, 1) := by decide +kernel
theorem dX5_turn_8 : decode cX5_turn 8 = .ok (.invokevirtual 124, 3) := by decide +kernel
theorem dX5_turn_11 : decode cX5_turn 11 = .ok (.invokevirtual 118, 3) := by decide +kernel
theorem dX5_turn_14 : decode cX5_turn 14 = .ok (.ireturn, 1) := by decide +kernel
set_option maxRecDepth 20000 in
theorem ggX5_pass_X5_keep : GoodIn wsX5_pass wsX5_keep := goodIn_r _ [5, 6, 7, 81, 82, 83, 84, 85, 86, 87, 88, 89, 90, 91, 92] (by decide +kernel) (by decide +kernel)
set_option maxRecDepth 20000 in
theorem gX5_pass_X5_keep : GoodIn wsX5_pass (wsV RX5 112 RX5 yX5_keep wsX5_keep) := goodIn_app (goodIn_of _ (by decide +kernel)) ggX5_pass_X5_keep
set_option maxRecDepth 20000 in
theorem ggX5_pass_X5_doPass : GoodIn wsX5_pass wsX5_doPass := goodIn_r _ [11, 7, 12, 13, 4, 14, 15, 16, 17, 18, 19, 20, 21, 22, 23, 24, 25, 26, 27, 28, 29, 30, 31, 32, 33, 34, 35, 36, 37, 38, 39, 40, 41, 42, 43, 44, 45, 46, 47, 48, 49, 50, 51, 52, 53, 54, 55, 56, 57, 58, 59, 60, 61, 62, 63, 64, 65, 66, 67, 68, 69, 70, 71, 72, 73, 74, 81, 82, 83, 84, 85, 86, 87, 88, 89, 90, 91, 92] (by decide +kernel) (by decide +kernel)
set_option maxRecDepth 20000 in
theorem gX5_pass_X5_doPass : GoodIn wsX5_pass (wsV RX5 127 RX5 yX5_doPass wsX5_doPass) := goodIn_app (goodIn_of _ (by decide +kernel)) ggX5_pass_X5_doPass
set_option maxRecDepth 20000 in
theorem ggX5_pass_X5_changed : GoodIn wsX5_pass wsX5_changed := goodIn_r _ [78, 79, 80, 6, 81, 82, 83, 84, 85, 86, 87, 88, 89, 90, 91, 92] (by decide +kernel) (by decide +kernel)
set_option maxRecDepth 20000 in
theorem gX5_pass_X5_changed : GoodIn wsX5_pass (wsV RX5 118 RX5 yX5_changed wsX5_changed) := goodIn_app (goodIn_of _ (by decide +kernel)) ggX5_pass_X5_changed
theorem dX5_pass_0 : decode cX5_pass 0 = .ok (.aload_n 0, 1) := by decide +kernel
theorem dX5_pass_1 : decode cX5_pass 1 = .ok (.invokevirtual 112, 3) := by decide +kernel
theorem dX5_pass_4 : decode cX5_pass 4 = .ok (.aload_n 0, 1) := by decide +kernel
theorem dX5_pass_5 : decode cX5_pass 5 = .ok (.aload_n 0, 1) := by decide +kernel
theorem dX5_pass_6 : decode cX5_pass 6 = .ok (.iload_n 1, 1) := by decide +kernel
theorem dX5_pass_7 : decode cX5_pass 7 = .ok (.invokevirtual 127, 3) := by decide +kernel
theorem dX5_pass_10 : decode cX5_pass 10 = .ok (.invokevirtual 118, 3) := by decide +kernel
theorem dX5_pass_13 : decode cX5_pass 13 = .ok (.ireturn, 1) := by decide +kernel
set_option maxRecDepth 20000 in
theorem ggX5_box_X5_isBox : GoodIn wsX5_box wsX5_isBox := goodIn_r _ [6, 7, 8, 9, 5, 10, 15, 16, 17, 18, 19, 20, 21, 22, 23, 24, 25, 26] (by decide +kernel) (by decide +kernel)
set_option maxRecDepth 20000 in
theorem gX5_box_X5_isBox : GoodIn wsX5_box (wsV RX5 101 RX5 yX5_isBox wsX5_isBox) := goodIn_app (goodIn_of _ (by decide +kernel)) ggX5_box_X5_isBox
set_option maxRecDepth 20000 in
theorem ggX5_box_X5_get : GoodIn wsX5_box wsX5_get := goodIn_r _ [14, 7, 15, 16, 17, 18, 19, 20, 21, 22, 23, 24, 25, 26] (by decide +kernel) (by decide +kernel)
set_option maxRecDepth 20000 in
theorem gX5_box_X5_get : GoodIn wsX5_box (wsV RX5 32 RX5 yX5_get wsX5_get) := goodIn_app (goodIn_of _ (by decide +kernel)) ggX5_box_X5_get
set_option maxRecDepth 20000 in
theorem ggX5_box_X5_in : GoodIn wsX5_box wsX5_in := goodIn_r _ [10] (by decide +kernel) (by decide +kernel)
set_option maxRecDepth 20000 in
theorem gX5_box_X5_in : GoodIn wsX5_box (va_wsS RX5 36 yX5_in wsX5_in) := goodIn_app (goodIn_of _ (by decide +kernel)) ggX5_box_X5_in
theorem dX5_box_0 : decode cX5_box 0 = .ok (.aload_n 0, 1) := by decide +kernel
theorem dX5_box_1 : decode cX5_box 1 = .ok (.iload_n 1, 1) := by decide +kernel
theorem dX5_box_2 : decode cX5_box 2 = .ok (.invokevirtual 101, 3) := by decide +kernel
theorem dX5_box_5 : decode cX5_box 5 = .ok (.ifCond .ne 5, 3) := by decide +kernel
theorem dX5_box_8 : decode cX5_box 8 = .ok (.iconst (-1), 1) := by decide +kernel
theorem dX5_box_9 : decode cX5_box 9 = .ok (.ireturn, 1) := by decide +kernel
theorem dX5_box_10 : decode cX5_box 10 = .ok (.iload_n 2, 1) := by decide +kernel
theorem dX5_box_11 : decode cX5_box 11 = .ok (.lookupswitch 63 #[(0, 25), (3, 36)], 25) := by decide +kernel
theorem dX5_box_36 : decode cX5_box 36 = .ok (.aload_n 0, 1) := by decide +kernel
theorem dX5_box_37 : decode cX5_box 37 = .ok (.iload_n 1, 1) := by decide +kernel
theorem dX5_box_38 : decode cX5_box 38 = .ok (.iconst 0, 1) := by decide +kernel
theorem dX5_box_39 : decode cX5_box 39 = .ok (.invokevirtual 32, 3) := by decide +kernel
theorem dX5_box_42 : decode cX5_box 42 = .ok (.sipush 1000, 3) := by decide +kernel
theorem dX5_box_45 : decode cX5_box 45 = .ok (.iadd, 1) := by decide +kernel
theorem dX5_box_46 : decode cX5_box 46 = .ok (.ireturn, 1) := by decide +kernel
theorem dX5_box_47 : decode cX5_box 47 = .ok (.aload_n 0, 1) := by decide +kernel
theorem dX5_box_48 : decode cX5_box 48 = .ok (.iload_n 1, 1) := by decide +kernel
theorem dX5_box_49 : decode cX5_box 49 = .ok (.iconst 3, 1) := by decide +kernel
theorem dX5_box_50 : decode cX5_box 50 = .ok (.invokevirtual 32, 3) := by decide +kernel
theorem dX5_box_53 : decode cX5_box 53 = .ok (.bipush (-6), 2) := by decide +kernel
theorem dX5_box_55 : decode cX5_box 55 = .ok (.if_icmp .ne 8, 3) := by decide +kernel
theorem dX5_box_58 : decode cX5_box 58 = .ok (.bipush (-6), 2) := by decide +kernel
theorem dX5_box_60 : decode cX5_box 60 = .ok (.goto 13, 3) := by decide +kernel
theorem dX5_box_63 : decode cX5_box 63 = .ok (.aload_n 0, 1) := by decide +kernel
theorem dX5_box_64 : decode cX5_box 64 = .ok (.iload_n 1, 1) := by decide +kernel
theorem dX5_box_65 : decode cX5_box 65 = .ok (.iconst 3, 1) := by decide +kernel
theorem dX5_box_66 : decode cX5_box 66 = .ok (.invokevirtual 32, 3) := by decide +kernel
theorem dX5_box_69 : decode cX5_box 69 = .ok (.sipush 1000, 3) := by decide +kernel
theorem dX5_box_72 : decode cX5_box 72 = .ok (.iadd, 1) := by decide +kernel
theorem dX5_box_73 : decode cX5_box 73 = .ok (.ireturn, 1) := by decide +kernel
theorem dX5_box_74 : decode cX5_box 74 = .ok (.iload_n 2, 1) := by decide +kernel
theorem dX5_box_75 : decode cX5_box 75 = .ok (.i2l, 1) := by decide +kernel
theorem dX5_box_76 : decode cX5_box 76 = .ok (.lconst 1, 1) := by decide +kernel
theorem dX5_box_77 : decode cX5_box 77 = .ok (.ldc2_w 87, 3) := by decide +kernel
theorem dX5_box_80 : decode cX5_box 80 = .ok (.invokestatic 36, 3) := by decide +kernel
theorem dX5_box_83 : decode cX5_box 83 = .ok (.ifCond .eq 12, 3) := by decide +kernel
theorem dX5_box_86 : decode cX5_box 86 = .ok (.aload_n 0, 1) := by decide +kernel
theorem dX5_box_87 : decode cX5_box 87 = .ok (.iload_n 1, 1) := by decide +kernel
theorem dX5_box_88 : decode cX5_box 88 = .ok (.iload_n 2, 1) := by decide +kernel
theorem dX5_box_89 : decode cX5_box 89 = .ok (.invokevirtual 32, 3) := by decide +kernel
theorem dX5_box_92 : decode cX5_box 92 = .ok (.goto 5, 3) := by decide +kernel
theorem dX5_box_95 : decode cX5_box 95 = .ok (.bipush (-2), 2) := by decide +kernel
theorem dX5_box_97 : decode cX5_box 97 = .ok (.ireturn, 1) := by decide +kernel
set_option maxRecDepth 20000 in
theorem ggX5_plan_X5_in : GoodIn wsX5_plan wsX5_in := goodIn_r _ [5] (by decide +kernel) (by decide +kernel)
set_option maxRecDepth 20000 in
theorem gX5_plan_X5_in : GoodIn wsX5_plan (va_wsS RX5 36 yX5_in wsX5_in) := goodIn_app (goodIn_of _ (by decide +kernel)) ggX5_plan_X5_in
theorem dX5_plan_0 : decode cX5_plan 0 = .ok (.iload_n 1, 1) := by decide +kernel
theorem dX5_plan_1 : decode cX5_plan 1 = .ok (.i2l, 1) := by decide +kernel
theorem dX5_plan_2 : decode cX5_plan 2 = .ok (.lconst 0, 1) := by decide +kernel
theorem dX5_plan_3 : decode cX5_plan 3 = .ok (.aload_n 0, 1) := by decide +kernel
theorem dX5_plan_4 : decode cX5_plan 4 = .ok (.getfield 7, 3) := by decide +kernel
theorem dX5_plan_7 : decode cX5_plan 7 = .ok (.bipush 20, 2) := by decide +kernel
theorem dX5_plan_9 : decode cX5_plan 9 = .ok (.iaload, 1) := by decide +kernel
theorem dX5_plan_10 : decode cX5_plan 10 = .ok (.i2l, 1) := by decide +kernel
theorem dX5_plan_11 : decode cX5_plan 11 = .ok (.lconst 1, 1) := by decide +kernel
theorem dX5_plan_12 : decode cX5_plan 12 = .ok (.lsub, 1) := by decide +kernel
theorem dX5_plan_13 : decode cX5_plan 13 = .ok (.invokestatic 36, 3) := by decide +kernel
theorem dX5_plan_16 : decode cX5_plan 16 = .ok (.ifCond .eq 20, 3) := by decide +kernel
theorem dX5_plan_19 : decode cX5_plan 19 = .ok (.aload_n 0, 1) := by decide +kernel
theorem dX5_plan_20 : decode cX5_plan 20 = .ok (.getfield 7, 3) := by decide +kernel
theorem dX5_plan_23 : decode cX5_plan 23 = .ok (.sipush 131, 3) := by decide +kernel
theorem dX5_plan_26 : decode cX5_plan 26 = .ok (.iload_n 1, 1) := by decide +kernel
theorem dX5_plan_27 : decode cX5_plan 27 = .ok (.iadd, 1) := by decide +kernel
theorem dX5_plan_28 : decode cX5_plan 28 = .ok (.iaload, 1) := by decide +kernel
theorem dX5_plan_29 : decode cX5_plan 29 = .ok (.sipush 1000, 3) := by decide +kernel
theorem dX5_plan_32 : decode cX5_plan 32 = .ok (.iadd, 1) := by decide +kernel
theorem dX5_plan_33 : decode cX5_plan 33 = .ok (.goto 4, 3) := by decide +kernel
theorem dX5_plan_36 : decode cX5_plan 36 = .ok (.iconst (-1), 1) := by decide +kernel
theorem dX5_plan_37 : decode cX5_plan 37 = .ok (.ireturn, 1) := by decide +kernel
set_option maxRecDepth 20000 in
theorem ggX5_report_X5_in : GoodIn wsX5_report wsX5_in := goodIn_r _ [5] (by decide +kernel) (by decide +kernel)
set_option maxRecDepth 20000 in
theorem gX5_report_X5_in : GoodIn wsX5_report (va_wsS RX5 36 yX5_in wsX5_in) := goodIn_app (goodIn_of _ (by decide +kernel)) ggX5_report_X5_in
theorem dX5_report_0 : decode cX5_report 0 = .ok (.iload_n 1, 1) := by decide +kernel
theorem dX5_report_1 : decode cX5_report 1 = .ok (.i2l, 1) := by decide +kernel
theorem dX5_report_2 : decode cX5_report 2 = .ok (.lconst 0, 1) := by decide +kernel
theorem dX5_report_3 : decode cX5_report 3 = .ok (.aload_n 0, 1) := by decide +kernel
theorem dX5_report_4 : decode cX5_report 4 = .ok (.getfield 7, 3) := by decide +kernel
theorem dX5_report_7 : decode cX5_report 7 = .ok (.bipush 19, 2) := by decide +kernel
theorem dX5_report_9 : decode cX5_report 9 = .ok (.iaload, 1) := by decide +kernel
theorem dX5_report_10 : decode cX5_report 10 = .ok (.i2l, 1) := by decide +kernel
theorem dX5_report_11 : decode cX5_report 11 = .ok (.lconst 1, 1) := by decide +kernel
theorem dX5_report_12 : decode cX5_report 12 = .ok (.lsub, 1) := by decide +kernel
theorem dX5_report_13 : decode cX5_report 13 = .ok (.invokestatic 36, 3) := by decide +kernel
theorem dX5_report_16 : decode cX5_report 16 = .ok (.ifCond .ne 5, 3) := by decide +kernel
theorem dX5_report_19 : decode cX5_report 19 = .ok (.iconst (-1), 1) := by decide +kernel
theorem dX5_report_20 : decode cX5_report 20 = .ok (.ireturn, 1) := by decide +kernel
theorem dX5_report_21 : decode cX5_report 21 = .ok (.iload_n 2, 1) := by decide +kernel
theorem dX5_report_22 : decode cX5_report 22 = .ok (.ifCond .ne 27, 3) := by decide +kernel
theorem dX5_report_25 : decode cX5_report 25 = .ok (.aload_n 0, 1) := by decide +kernel
theorem dX5_report_26 : decode cX5_report 26 = .ok (.getfield 7, 3) := by decide +kernel
theorem dX5_report_29 : decode cX5_report 29 = .ok (.bipush 75, 2) := by decide +kernel
theorem dX5_report_31 : decode cX5_report 31 = .ok (.iconst 2, 1) := by decide +kernel
theorem dX5_report_32 : decode cX5_report 32 = .ok (.iload_n 1, 1) := by decide +kernel
theorem dX5_report_33 : decode cX5_report 33 = .ok (.imul, 1) := by decide +kernel
theorem dX5_report_34 : decode cX5_report 34 = .ok (.iadd, 1) := by decide +kernel
theorem dX5_report_35 : decode cX5_report 35 = .ok (.iaload, 1) := by decide +kernel
theorem dX5_report_36 : decode cX5_report 36 = .ok (.aload_n 0, 1) := by decide +kernel
theorem dX5_report_37 : decode cX5_report 37 = .ok (.getfield 7, 3) := by decide +kernel
theorem dX5_report_40 : decode cX5_report 40 = .ok (.bipush 8, 2) := by decide +kernel
theorem dX5_report_42 : decode cX5_report 42 = .ok (.iaload, 1) := by decide +kernel
theorem dX5_report_43 : decode cX5_report 43 = .ok (.isub, 1) := by decide +kernel
theorem dX5_report_44 : decode cX5_report 44 = .ok (.iconst 1, 1) := by decide +kernel
theorem dX5_report_45 : decode cX5_report 45 = .ok (.iadd, 1) := by decide +kernel
theorem dX5_report_46 : decode cX5_report 46 = .ok (.goto 26, 3) := by decide +kernel
theorem dX5_report_49 : decode cX5_report 49 = .ok (.iload_n 2, 1) := by decide +kernel
theorem dX5_report_50 : decode cX5_report 50 = .ok (.iconst 1, 1) := by decide +kernel
theorem dX5_report_51 : decode cX5_report 51 = .ok (.if_icmp .ne 19, 3) := by decide +kernel
theorem dX5_report_54 : decode cX5_report 54 = .ok (.aload_n 0, 1) := by decide +kernel
theorem dX5_report_55 : decode cX5_report 55 = .ok (.getfield 7, 3) := by decide +kernel
theorem dX5_report_58 : decode cX5_report 58 = .ok (.bipush 75, 2) := by decide +kernel
theorem dX5_report_60 : decode cX5_report 60 = .ok (.iconst 2, 1) := by decide +kernel
theorem dX5_report_61 : decode cX5_report 61 = .ok (.iload_n 1, 1) := by decide +kernel
theorem dX5_report_62 : decode cX5_report 62 = .ok (.imul, 1) := by decide +kernel
theorem dX5_report_63 : decode cX5_report 63 = .ok (.iadd, 1) := by decide +kernel
theorem dX5_report_64 : decode cX5_report 64 = .ok (.iconst 1, 1) := by decide +kernel
theorem dX5_report_65 : decode cX5_report 65 = .ok (.iadd, 1) := by decide +kernel
theorem dX5_report_66 : decode cX5_report 66 = .ok (.iaload, 1) := by decide +kernel
theorem dX5_report_67 : decode cX5_report 67 = .ok (.goto 5, 3) := by decide +kernel
theorem dX5_report_70 : decode cX5_report 70 = .ok (.bipush (-2), 2) := by decide +kernel
theorem dX5_report_72 : decode cX5_report 72 = .ok (.ireturn, 1) := by decide +kernel
set_option maxRecDepth 20000 in
theorem ggX5_count_X5_in : GoodIn wsX5_count wsX5_in := goodIn_r _ [10] (by decide +kernel) (by decide +kernel)
set_option maxRecDepth 20000 in
theorem gX5_count_X5_in : GoodIn wsX5_count (va_wsS RX5 36 yX5_in wsX5_in) := goodIn_app (goodIn_of _ (by decide +kernel)) ggX5_count_X5_in
theorem dX5_count_0 : decode cX5_count 0 = .ok (.iload_n 1, 1) := by decide +kernel
theorem dX5_count_1 : decode cX5_count 1 = .ok (.i2l, 1) := by decide +kernel
theorem dX5_count_2 : decode cX5_count 2 = .ok (.lconst 0, 1) := by decide +kernel
theorem dX5_count_3 : decode cX5_count 3 = .ok (.ldc2_w 130, 3) := by decide +kernel
theorem dX5_count_6 : decode cX5_count 6 = .ok (.invokestatic 36, 3) := by decide +kernel
theorem dX5_count_9 : decode cX5_count 9 = .ok (.ifCond .eq 13, 3) := by decide +kernel
theorem dX5_count_12 : decode cX5_count 12 = .ok (.aload_n 0, 1) := by decide +kernel
theorem dX5_count_13 : decode cX5_count 13 = .ok (.getfield 7, 3) := by decide +kernel
theorem dX5_count_16 : decode cX5_count 16 = .ok (.bipush 8, 2) := by decide +kernel
theorem dX5_count_18 : decode cX5_count 18 = .ok (.iload_n 1, 1) := by decide +kernel
theorem dX5_count_19 : decode cX5_count 19 = .ok (.iadd, 1) := by decide +kernel
theorem dX5_count_20 : decode cX5_count 20 = .ok (.iaload, 1) := by decide +kernel
theorem dX5_count_21 : decode cX5_count 21 = .ok (.ireturn, 1) := by decide +kernel
theorem dX5_count_22 : decode cX5_count 22 = .ok (.iload_n 1, 1) := by decide +kernel
theorem dX5_count_23 : decode cX5_count 23 = .ok (.i2l, 1) := by decide +kernel
theorem dX5_count_24 : decode cX5_count 24 = .ok (.ldc2_w 132, 3) := by decide +kernel
theorem dX5_count_27 : decode cX5_count 27 = .ok (.ldc2_w 134, 3) := by decide +kernel
theorem dX5_count_30 : decode cX5_count 30 = .ok (.invokestatic 36, 3) := by decide +kernel
theorem dX5_count_33 : decode cX5_count 33 = .ok (.ifCond .eq 13, 3) := by decide +kernel
theorem dX5_count_36 : decode cX5_count 36 = .ok (.aload_n 0, 1) := by decide +kernel
theorem dX5_count_37 : decode cX5_count 37 = .ok (.getfield 7, 3) := by decide +kernel
theorem dX5_count_40 : decode cX5_count 40 = .ok (.iload_n 1, 1) := by decide +kernel
theorem dX5_count_41 : decode cX5_count 41 = .ok (.bipush 14, 2) := by decide +kernel
theorem dX5_count_43 : decode cX5_count 43 = .ok (.isub, 1) := by decide +kernel
theorem dX5_count_44 : decode cX5_count 44 = .ok (.iaload, 1) := by decide +kernel
theorem dX5_count_45 : decode cX5_count 45 = .ok (.ireturn, 1) := by decide +kernel
theorem dX5_count_46 : decode cX5_count 46 = .ok (.iload_n 1, 1) := by decide +kernel
theorem dX5_count_47 : decode cX5_count 47 = .ok (.bipush 22, 2) := by decide +kernel
theorem dX5_count_49 : decode cX5_count 49 = .ok (.if_icmp .ne 10, 3) := by decide +kernel
theorem dX5_count_52 : decode cX5_count 52 = .ok (.aload_n 0, 1) := by decide +kernel
theorem dX5_count_53 : decode cX5_count 53 = .ok (.getfield 136, 3) := by decide +kernel
theorem dX5_count_56 : decode cX5_count 56 = .ok (.goto 18, 3) := by decide +kernel
theorem dX5_count_59 : decode cX5_count 59 = .ok (.iload_n 1, 1) := by decide +kernel
theorem dX5_count_60 : decode cX5_count 60 = .ok (.bipush 23, 2) := by decide +kernel
theorem dX5_count_62 : decode cX5_count 62 = .ok (.if_icmp .ne 10, 3) := by decide +kernel
theorem dX5_count_65 : decode cX5_count 65 = .ok (.aload_n 0, 1) := by decide +kernel
theorem dX5_count_66 : decode cX5_count 66 = .ok (.getfield 28, 3) := by decide +kernel
theorem dX5_count_69 : decode cX5_count 69 = .ok (.goto 5, 3) := by decide +kernel
theorem dX5_count_72 : decode cX5_count 72 = .ok (.bipush (-2), 2) := by decide +kernel
theorem dX5_count_74 : decode cX5_count 74 = .ok (.ireturn, 1) := by decide +kernel
set_option maxRecDepth 20000 in
theorem ggX5_brings_X5_keep : GoodIn wsX5_brings wsX5_keep := goodIn_r _ [6, 7, 1, 71, 72, 73, 74, 75, 76, 77, 78, 79, 80, 81, 82] (by decide +kernel) (by decide +kernel)
set_option maxRecDepth 20000 in
theorem gX5_brings_X5_keep : GoodIn wsX5_brings (wsV RX5 112 RX5 yX5_keep wsX5_keep) := goodIn_app (goodIn_of _ (by decide +kernel)) ggX5_brings_X5_keep
set_option maxRecDepth 20000 in
theorem ggX5_brings_X5_passes : GoodIn wsX5_brings wsX5_passes := goodIn_r _ [11, 12, 13, 14, 5, 15, 1, 16, 17, 18, 19, 20, 21, 22, 23, 24, 25, 26, 27, 28, 29, 30, 31, 32, 33, 34, 35, 36, 37, 38, 39, 40, 41, 42, 43, 44, 45, 46, 47, 48, 49, 50, 51, 52, 53, 54, 55, 56, 57, 58, 59, 60, 61, 62, 63, 64, 65, 66, 71, 72, 73, 74, 75, 76, 77, 78, 79, 80, 81, 82] (by decide +kernel) (by decide +kernel)
set_option maxRecDepth 20000 in
theorem gX5_brings_X5_passes : GoodIn wsX5_brings (wsV RX5 109 RX5 yX5_passes wsX5_passes) := goodIn_app (goodIn_of _ (by decide +kernel)) ggX5_brings_X5_passes
set_option maxRecDepth 20000 in
theorem ggX5_brings_X5_giveBack : GoodIn wsX5_brings wsX5_giveBack := goodIn_r _ [70, 1, 7, 71, 72, 73, 74, 75, 76, 77, 78, 79, 80, 81, 82] (by decide +kernel) (by decide +kernel)
set_option maxRecDepth 20000 in
theorem gX5_brings_X5_giveBack : GoodIn wsX5_brings (wsV RX5 139 RX5 yX5_giveBack wsX5_giveBack) := goodIn_app (goodIn_of _ (by decide +kernel)) ggX5_brings_X5_giveBack
theorem dX5_brings_0 : decode cX5_brings 0 = .ok (.aload_n 0, 1) := by decide +kernel
theorem dX5_brings_1 : decode cX5_brings 1 = .ok (.invokevirtual 112, 3) := by decide +kernel
theorem dX5_brings_4 : decode cX5_brings 4 = .ok (.aload_n 0, 1) := by decide +kernel
theorem dX5_brings_5 : decode cX5_brings 5 = .ok (.getfield 7, 3) := by decide +kernel
theorem dX5_brings_8 : decode cX5_brings 8 = .ok (.iload_n 2, 1) := by decide +kernel
theorem dX5_brings_9 : decode cX5_brings 9 = .ok (.iaload, 1) := by decide +kernel
theorem dX5_brings_10 : decode cX5_brings 10 = .ok (.istore_n 3, 1) := by decide +kernel
theorem dX5_brings_11 : decode cX5_brings 11 = .ok (.aload_n 0, 1) := by decide +kernel
theorem dX5_brings_12 : decode cX5_brings 12 = .ok (.iload_n 1, 1) := by decide +kernel
theorem dX5_brings_13 : decode cX5_brings 13 = .ok (.invokevirtual 109, 3) := by decide +kernel
theorem dX5_brings_16 : decode cX5_brings 16 = .ok (.istore 4, 2) := by decide +kernel
theorem dX5_brings_18 : decode cX5_brings 18 = .ok (.aload_n 0, 1) := by decide +kernel
theorem dX5_brings_19 : decode cX5_brings 19 = .ok (.getfield 7, 3) := by decide +kernel
theorem dX5_brings_22 : decode cX5_brings 22 = .ok (.iload_n 2, 1) := by decide +kernel
theorem dX5_brings_23 : decode cX5_brings 23 = .ok (.iaload, 1) := by decide +kernel
theorem dX5_brings_24 : decode cX5_brings 24 = .ok (.iload_n 3, 1) := by decide +kernel
theorem dX5_brings_25 : decode cX5_brings 25 = .ok (.isub, 1) := by decide +kernel
theorem dX5_brings_26 : decode cX5_brings 26 = .ok (.istore 5, 2) := by decide +kernel
theorem dX5_brings_28 : decode cX5_brings 28 = .ok (.aload_n 0, 1) := by decide +kernel
theorem dX5_brings_29 : decode cX5_brings 29 = .ok (.invokevirtual 139, 3) := by decide +kernel
theorem dX5_brings_32 : decode cX5_brings 32 = .ok (.iload 5, 2) := by decide +kernel
theorem dX5_brings_34 : decode cX5_brings 34 = .ok (.ireturn, 1) := by decide +kernel
set_option maxRecDepth 20000 in
theorem ggX5_ifPass_X5_areTicks : GoodIn wsX5_ifPass wsX5_areTicks := goodIn_r _ [6, 7, 8, 9, 5, 10] (by decide +kernel) (by decide +kernel)
set_option maxRecDepth 20000 in
theorem gX5_ifPass_X5_areTicks : GoodIn wsX5_ifPass (va_wsS RX5 106 yX5_areTicks wsX5_areTicks) := goodIn_app (goodIn_of _ (by decide +kernel)) ggX5_ifPass_X5_areTicks
set_option maxRecDepth 20000 in
theorem ggX5_ifPass_X5_in : GoodIn wsX5_ifPass wsX5_in := goodIn_r _ [10] (by decide +kernel) (by decide +kernel)
set_option maxRecDepth 20000 in
theorem gX5_ifPass_X5_in : GoodIn wsX5_ifPass (va_wsS RX5 36 yX5_in wsX5_in) := goodIn_app (goodIn_of _ (by decide +kernel)) ggX5_ifPass_X5_in
set_option maxRecDepth 20000 in
theorem ggX5_ifPass_X5_brings : GoodIn wsX5_ifPass wsX5_brings := goodIn_r _ [14, 2, 15, 16, 17, 5, 18, 19, 20, 21, 22, 23, 24, 25, 26, 27, 28, 29, 30, 31, 32, 33, 34, 35, 36, 37, 38, 39, 40, 41, 42, 43, 44, 45, 46, 47, 48, 49, 50, 51, 52, 53, 54, 55, 56, 57, 58, 59, 60, 61, 62, 63, 64, 65, 66, 67, 68, 69, 70, 71, 72, 73, 74, 75, 8, 9, 10, 76, 77, 78, 79, 80, 81, 82, 83, 84, 85, 86, 87, 88, 89, 90, 91] (by decide +kernel) (by decide +kernel)
set_option maxRecDepth 20000 in
theorem gX5_ifPass_X5_brings : GoodIn wsX5_ifPass (wsV RX5 144 RX5 yX5_brings wsX5_brings) := goodIn_app (goodIn_of _ (by decide +kernel)) ggX5_ifPass_X5_brings
theorem dX5_ifPass_0 : decode cX5_ifPass 0 = .ok (.iload_n 1, 1) := by decide +kernel
theorem dX5_ifPass_1 : decode cX5_ifPass 1 = .ok (.invokestatic 106, 3) := by decide +kernel
theorem dX5_ifPass_4 : decode cX5_ifPass 4 = .ok (.ifCond .eq 15, 3) := by decide +kernel
theorem dX5_ifPass_7 : decode cX5_ifPass 7 = .ok (.iload_n 2, 1) := by decide +kernel
theorem dX5_ifPass_8 : decode cX5_ifPass 8 = .ok (.i2l, 1) := by decide +kernel
theorem dX5_ifPass_9 : decode cX5_ifPass 9 = .ok (.lconst 0, 1) := by decide +kernel
theorem dX5_ifPass_10 : decode cX5_ifPass 10 = .ok (.ldc2_w 142, 3) := by decide +kernel
theorem dX5_ifPass_13 : decode cX5_ifPass 13 = .ok (.invokestatic 36, 3) := by decide +kernel
theorem dX5_ifPass_16 : decode cX5_ifPass 16 = .ok (.ifCond .ne 6, 3) := by decide +kernel
theorem dX5_ifPass_19 : decode cX5_ifPass 19 = .ok (.bipush (-2), 2) := by decide +kernel
theorem dX5_ifPass_21 : decode cX5_ifPass 21 = .ok (.ireturn, 1) := by decide +kernel
theorem dX5_ifPass_22 : decode cX5_ifPass 22 = .ok (.iload_n 2, 1) := by decide +kernel
theorem dX5_ifPass_23 : decode cX5_ifPass 23 = .ok (.tableswitch 69 3 6 #[29, 37, 45, 53], 29) := by decide +kernel
theorem dX5_ifPass_52 : decode cX5_ifPass 52 = .ok (.aload_n 0, 1) := by decide +kernel
theorem dX5_ifPass_53 : decode cX5_ifPass 53 = .ok (.iload_n 1, 1) := by decide +kernel
theorem dX5_ifPass_54 : decode cX5_ifPass 54 = .ok (.bipush 17, 2) := by decide +kernel
theorem dX5_ifPass_56 : decode cX5_ifPass 56 = .ok (.invokevirtual 144, 3) := by decide +kernel
theorem dX5_ifPass_59 : decode cX5_ifPass 59 = .ok (.ireturn, 1) := by decide +kernel
theorem dX5_ifPass_60 : decode cX5_ifPass 60 = .ok (.aload_n 0, 1) := by decide +kernel
theorem dX5_ifPass_61 : decode cX5_ifPass 61 = .ok (.iload_n 1, 1) := by decide +kernel
theorem dX5_ifPass_62 : decode cX5_ifPass 62 = .ok (.bipush 14, 2) := by decide +kernel
theorem dX5_ifPass_64 : decode cX5_ifPass 64 = .ok (.invokevirtual 144, 3) := by decide +kernel
theorem dX5_ifPass_67 : decode cX5_ifPass 67 = .ok (.ireturn, 1) := by decide +kernel
theorem dX5_ifPass_68 : decode cX5_ifPass 68 = .ok (.aload_n 0, 1) := by decide +kernel
theorem dX5_ifPass_69 : decode cX5_ifPass 69 = .ok (.iload_n 1, 1) := by decide +kernel
theorem dX5_ifPass_70 : decode cX5_ifPass 70 = .ok (.bipush 15, 2) := by decide +kernel
theorem dX5_ifPass_72 : decode cX5_ifPass 72 = .ok (.invokevirtual 144, 3) := by decide +kernel
theorem dX5_ifPass_75 : decode cX5_ifPass 75 = .ok (.ireturn, 1) := by decide +kernel
theorem dX5_ifPass_76 : decode cX5_ifPass 76 = .ok (.aload_n 0, 1) := by decide +kernel
theorem dX5_ifPass_77 : decode cX5_ifPass 77 = .ok (.getfield 7, 3) := by decide +kernel
theorem dX5_ifPass_80 : decode cX5_ifPass 80 = .ok (.bipush 18, 2) := by decide +kernel
theorem dX5_ifPass_82 : decode cX5_ifPass 82 = .ok (.iaload, 1) := by decide +kernel
theorem dX5_ifPass_83 : decode cX5_ifPass 83 = .ok (.aload_n 0, 1) := by decide +kernel
theorem dX5_ifPass_84 : decode cX5_ifPass 84 = .ok (.iload_n 1, 1) := by decide +kernel
theorem dX5_ifPass_85 : decode cX5_ifPass 85 = .ok (.bipush 18, 2) := by decide +kernel
theorem dX5_ifPass_87 : decode cX5_ifPass 87 = .ok (.invokevirtual 144, 3) := by decide +kernel
theorem dX5_ifPass_90 : decode cX5_ifPass 90 = .ok (.iadd, 1) := by decide +kernel
theorem dX5_ifPass_91 : decode cX5_ifPass 91 = .ok (.ireturn, 1) := by decide +kernel
theorem dX5_ifPass_92 : decode cX5_ifPass 92 = .ok (.aload_n 0, 1) := by decide +kernel
theorem dX5_ifPass_93 : decode cX5_ifPass 93 = .ok (.iload_n 1, 1) := by decide +kernel
theorem dX5_ifPass_94 : decode cX5_ifPass 94 = .ok (.bipush 11, 2) := by decide +kernel
theorem dX5_ifPass_96 : decode cX5_ifPass 96 = .ok (.iload_n 2, 1) := by decide +kernel
theorem dX5_ifPass_97 : decode cX5_ifPass 97 = .ok (.iadd, 1) := by decide +kernel
theorem dX5_ifPass_98 : decode cX5_ifPass 98 = .ok (.invokevirtual 144, 3) := by decide +kernel
theorem dX5_ifPass_101 : decode cX5_ifPass 101 = .ok (.ireturn, 1) := by decide +kernel
set_option maxRecDepth 20000 in
theorem ggX5_bestGuess_X5_areTicks : GoodIn wsX5_bestGuess wsX5_areTicks := goodIn_r _ [5, 6, 7, 8, 4, 9] (by decide +kernel) (by decide +kernel)
set_option maxRecDepth 20000 in
theorem gX5_bestGuess_X5_areTicks : GoodIn wsX5_bestGuess (va_wsS RX5 106 yX5_areTicks wsX5_areTicks) := goodIn_app (goodIn_of _ (by decide +kernel)) ggX5_bestGuess_X5_areTicks
set_option maxRecDepth 20000 in
theorem ggX5_bestGuess_X5_in : GoodIn wsX5_bestGuess wsX5_in := goodIn_r _ [9] (by decide +kernel) (by decide +kernel)
set_option maxRecDepth 20000 in
theorem gX5_bestGuess_X5_in : GoodIn wsX5_bestGuess (va_wsS RX5 36 yX5_in wsX5_in) := goodIn_app (goodIn_of _ (by decide +kernel)) ggX5_bestGuess_X5_in
set_option maxRecDepth 20000 in
theorem ggX5_bestGuess_X5_brings : GoodIn wsX5_bestGuess wsX5_brings := goodIn_r _ [13, 1, 14, 15, 16, 4, 17, 18, 19, 20, 21, 22, 23, 24, 25, 26, 27, 28, 29, 30, 31, 32, 33, 34, 35, 36, 37, 38, 39, 40, 41, 42, 43, 44, 45, 46, 47, 48, 49, 50, 51, 52, 53, 54, 55, 56, 57, 58, 59, 60, 61, 62, 63, 64, 65, 66, 67, 68, 69, 70, 71, 72, 73, 74, 7, 8, 9, 75, 76, 77, 78, 79, 80, 81, 82, 83, 84, 85, 86, 87, 88, 89, 90] (by decide +kernel) (by decide +kernel)
set_option maxRecDepth 20000 in
theorem gX5_bestGuess_X5_brings : GoodIn wsX5_bestGuess (wsV RX5 144 RX5 yX5_brings wsX5_brings) := goodIn_app (goodIn_of _ (by decide +kernel)) ggX5_bestGuess_X5_brings
theorem dX5_bestGuess_0 : decode cX5_bestGuess 0 = .ok (.iload_n 1, 1) := by decide +kernel
theorem dX5_bestGuess_1 : decode cX5_bestGuess 1 = .ok (.invokestatic 106, 3) := by decide +kernel
theorem dX5_bestGuess_4 : decode cX5_bestGuess 4 = .ok (.ifCond .eq 13, 3) := by decide +kernel
theorem dX5_bestGuess_7 : decode cX5_bestGuess 7 = .ok (.iload_n 2, 1) := by decide +kernel
theorem dX5_bestGuess_8 : decode cX5_bestGuess 8 = .ok (.i2l, 1) := by decide +kernel
theorem dX5_bestGuess_9 : decode cX5_bestGuess 9 = .ok (.lconst 0, 1) := by decide +kernel
theorem dX5_bestGuess_10 : decode cX5_bestGuess 10 = .ok (.lconst 1, 1) := by decide +kernel
theorem dX5_bestGuess_11 : decode cX5_bestGuess 11 = .ok (.invokestatic 36, 3) := by decide +kernel
theorem dX5_bestGuess_14 : decode cX5_bestGuess 14 = .ok (.ifCond .ne 6, 3) := by decide +kernel
theorem dX5_bestGuess_17 : decode cX5_bestGuess 17 = .ok (.bipush (-2), 2) := by decide +kernel
theorem dX5_bestGuess_19 : decode cX5_bestGuess 19 = .ok (.ireturn, 1) := by decide +kernel
theorem dX5_bestGuess_20 : decode cX5_bestGuess 20 = .ok (.aload_n 0, 1) := by decide +kernel
theorem dX5_bestGuess_21 : decode cX5_bestGuess 21 = .ok (.getfield 7, 3) := by decide +kernel
theorem dX5_bestGuess_24 : decode cX5_bestGuess 24 = .ok (.iconst 2, 1) := by decide +kernel
theorem dX5_bestGuess_25 : decode cX5_bestGuess 25 = .ok (.iaload, 1) := by decide +kernel
theorem dX5_bestGuess_26 : decode cX5_bestGuess 26 = .ok (.istore_n 3, 1) := by decide +kernel
theorem dX5_bestGuess_27 : decode cX5_bestGuess 27 = .ok (.iconst 0, 1) := by decide +kernel
theorem dX5_bestGuess_28 : decode cX5_bestGuess 28 = .ok (.istore 4, 2) := by decide +kernel
theorem dX5_bestGuess_30 : decode cX5_bestGuess 30 = .ok (.iconst (-1), 1) := by decide +kernel
theorem dX5_bestGuess_31 : decode cX5_bestGuess 31 = .ok (.istore 5, 2) := by decide +kernel
theorem dX5_bestGuess_33 : decode cX5_bestGuess 33 = .ok (.iconst 0, 1) := by decide +kernel
theorem dX5_bestGuess_34 : decode cX5_bestGuess 34 = .ok (.istore 6, 2) := by decide +kernel
theorem dX5_bestGuess_36 : decode cX5_bestGuess 36 = .ok (.iload 6, 2) := by decide +kernel
theorem dX5_bestGuess_38 : decode cX5_bestGuess 38 = .ok (.iconst 5, 1) := by decide +kernel
theorem dX5_bestGuess_39 : decode cX5_bestGuess 39 = .ok (.if_icmp .gt 58, 3) := by decide +kernel
theorem dX5_bestGuess_42 : decode cX5_bestGuess 42 = .ok (.aload_n 0, 1) := by decide +kernel
theorem dX5_bestGuess_43 : decode cX5_bestGuess 43 = .ok (.getfield 7, 3) := by decide +kernel
theorem dX5_bestGuess_46 : decode cX5_bestGuess 46 = .ok (.iconst 2, 1) := by decide +kernel
theorem dX5_bestGuess_47 : decode cX5_bestGuess 47 = .ok (.iload 6, 2) := by decide +kernel
theorem dX5_bestGuess_49 : decode cX5_bestGuess 49 = .ok (.iastore, 1) := by decide +kernel
theorem dX5_bestGuess_50 : decode cX5_bestGuess 50 = .ok (.aload_n 0, 1) := by decide +kernel
theorem dX5_bestGuess_51 : decode cX5_bestGuess 51 = .ok (.iload_n 1, 1) := by decide +kernel
theorem dX5_bestGuess_52 : decode cX5_bestGuess 52 = .ok (.bipush 11, 2) := by decide +kernel
theorem dX5_bestGuess_54 : decode cX5_bestGuess 54 = .ok (.invokevirtual 144, 3) := by decide +kernel
theorem dX5_bestGuess_57 : decode cX5_bestGuess 57 = .ok (.istore 7, 2) := by decide +kernel
theorem dX5_bestGuess_59 : decode cX5_bestGuess 59 = .ok (.iload 7, 2) := by decide +kernel
theorem dX5_bestGuess_61 : decode cX5_bestGuess 61 = .ok (.iload 5, 2) := by decide +kernel
theorem dX5_bestGuess_63 : decode cX5_bestGuess 63 = .ok (.if_icmp .le 8, 3) := by decide +kernel
theorem dX5_bestGuess_66 : decode cX5_bestGuess 66 = .ok (.iload 6, 2) := by decide +kernel
theorem dX5_bestGuess_68 : decode cX5_bestGuess 68 = .ok (.goto 5, 3) := by decide +kernel
theorem dX5_bestGuess_71 : decode cX5_bestGuess 71 = .ok (.iload 4, 2) := by decide +kernel
theorem dX5_bestGuess_73 : decode cX5_bestGuess 73 = .ok (.istore 4, 2) := by decide +kernel
theorem dX5_bestGuess_75 : decode cX5_bestGuess 75 = .ok (.iload 7, 2) := by decide +kernel
theorem dX5_bestGuess_77 : decode cX5_bestGuess 77 = .ok (.iload 5, 2) := by decide +kernel
theorem dX5_bestGuess_79 : decode cX5_bestGuess 79 = .ok (.if_icmp .le 8, 3) := by decide +kernel
theorem dX5_bestGuess_82 : decode cX5_bestGuess 82 = .ok (.iload 7, 2) := by decide +kernel
theorem dX5_bestGuess_84 : decode cX5_bestGuess 84 = .ok (.goto 5, 3) := by decide +kernel
theorem dX5_bestGuess_87 : decode cX5_bestGuess 87 = .ok (.iload 5, 2) := by decide +kernel
theorem dX5_bestGuess_89 : decode cX5_bestGuess 89 = .ok (.istore 5, 2) := by decide +kernel
theorem dX5_bestGuess_91 : decode cX5_bestGuess 91 = .ok (.iinc 6 1, 3) := by decide +kernel
theorem dX5_bestGuess_94 : decode cX5_bestGuess 94 = .ok (.goto (-58), 3) := by decide +kernel
theorem dX5_bestGuess_97 : decode cX5_bestGuess 97 = .ok (.aload_n 0, 1) := by decide +kernel
theorem dX5_bestGuess_98 : decode cX5_bestGuess 98 = .ok (.getfield 7, 3) := by decide +kernel
theorem dX5_bestGuess_101 : decode cX5_bestGuess 101 = .ok (.iconst 2, 1) := by decide +kernel
theorem dX5_bestGuess_102 : decode cX5_bestGuess 102 = .ok (.iload_n 3, 1) := by decide +kernel
theorem dX5_bestGuess_103 : decode cX5_bestGuess 103 = .ok (.iastore, 1) := by decide +kernel
theorem dX5_bestGuess_104 : decode cX5_bestGuess 104 = .ok (.iload_n 2, 1) := by decide +kernel
theorem dX5_bestGuess_105 : decode cX5_bestGuess 105 = .ok (.ifCond .ne 8, 3) := by decide +kernel
theorem dX5_bestGuess_108 : decode cX5_bestGuess 108 = .ok (.iload 4, 2) := by decide +kernel
theorem dX5_bestGuess_110 : decode cX5_bestGuess 110 = .ok (.goto 5, 3) := by decide +kernel
theorem dX5_bestGuess_113 : decode cX5_bestGuess 113 = .ok (.iload 5, 2) := by decide +kernel
theorem dX5_bestGuess_115 : decode cX5_bestGuess 115 = .ok (.ireturn, 1) := by decide +kernel
set_option maxRecDepth 20000 in
theorem ggX5_neededSlack_X5_areTicks : GoodIn wsX5_neededSlack wsX5_areTicks := goodIn_r _ [5, 6, 7, 8, 4, 9] (by decide +kernel) (by decide +kernel)
set_option maxRecDepth 20000 in
theorem gX5_neededSlack_X5_areTicks : GoodIn wsX5_neededSlack (va_wsS RX5 106 yX5_areTicks wsX5_areTicks) := goodIn_app (goodIn_of _ (by decide +kernel)) ggX5_neededSlack_X5_areTicks
set_option maxRecDepth 20000 in
theorem ggX5_neededSlack_X5_brings : GoodIn wsX5_neededSlack wsX5_brings := goodIn_r _ [13, 1, 14, 15, 16, 4, 17, 18, 19, 20, 21, 22, 23, 24, 25, 26, 27, 28, 29, 30, 31, 32, 33, 34, 35, 36, 37, 38, 39, 40, 41, 42, 43, 44, 45, 46, 47, 48, 49, 50, 51, 52, 53, 54, 55, 56, 57, 58, 59, 60, 61, 62, 63, 64, 65, 66, 67, 68, 69, 70, 71, 72, 73, 74, 7, 8, 9, 75, 76, 77, 78, 79, 80, 81, 82, 83, 84, 85, 86, 87, 88, 89, 90] (by decide +kernel) (by decide +kernel)
set_option maxRecDepth 20000 in
theorem gX5_neededSlack_X5_brings : GoodIn wsX5_neededSlack (wsV RX5 144 RX5 yX5_brings wsX5_brings) := goodIn_app (goodIn_of _ (by decide +kernel)) ggX5_neededSlack_X5_brings
theorem dX5_neededSlack_0 : decode cX5_neededSlack 0 = .ok (.iload_n 1, 1) := by decide +kernel
theorem dX5_neededSlack_1 : decode cX5_neededSlack 1 = .ok (.invokestatic 106, 3) := by decide +kernel
theorem dX5_neededSlack_4 : decode cX5_neededSlack 4 = .ok (.ifCond .ne 6, 3) := by decide +kernel
theorem dX5_neededSlack_7 : decode cX5_neededSlack 7 = .ok (.bipush (-2), 2) := by decide +kernel
theorem dX5_neededSlack_9 : decode cX5_neededSlack 9 = .ok (.ireturn, 1) := by decide +kernel
theorem dX5_neededSlack_10 : decode cX5_neededSlack 10 = .ok (.aload_n 0, 1) := by decide +kernel
theorem dX5_neededSlack_11 : decode cX5_neededSlack 11 = .ok (.getfield 7, 3) := by decide +kernel
theorem dX5_neededSlack_14 : decode cX5_neededSlack 14 = .ok (.bipush 18, 2) := by decide +kernel
theorem dX5_neededSlack_16 : decode cX5_neededSlack 16 = .ok (.iaload, 1) := by decide +kernel
theorem dX5_neededSlack_17 : decode cX5_neededSlack 17 = .ok (.istore_n 2, 1) := by decide +kernel
theorem dX5_neededSlack_18 : decode cX5_neededSlack 18 = .ok (.bipush (-6), 2) := by decide +kernel
theorem dX5_neededSlack_20 : decode cX5_neededSlack 20 = .ok (.istore_n 3, 1) := by decide +kernel
theorem dX5_neededSlack_21 : decode cX5_neededSlack 21 = .ok (.bipush 60, 2) := by decide +kernel
theorem dX5_neededSlack_23 : decode cX5_neededSlack 23 = .ok (.istore 4, 2) := by decide +kernel
theorem dX5_neededSlack_25 : decode cX5_neededSlack 25 = .ok (.iload 4, 2) := by decide +kernel
theorem dX5_neededSlack_27 : decode cX5_neededSlack 27 = .ok (.ifCond .lt 35, 3) := by decide +kernel
theorem dX5_neededSlack_30 : decode cX5_neededSlack 30 = .ok (.aload_n 0, 1) := by decide +kernel
theorem dX5_neededSlack_31 : decode cX5_neededSlack 31 = .ok (.getfield 7, 3) := by decide +kernel
theorem dX5_neededSlack_34 : decode cX5_neededSlack 34 = .ok (.bipush 18, 2) := by decide +kernel
theorem dX5_neededSlack_36 : decode cX5_neededSlack 36 = .ok (.iload 4, 2) := by decide +kernel
theorem dX5_neededSlack_38 : decode cX5_neededSlack 38 = .ok (.iastore, 1) := by decide +kernel
theorem dX5_neededSlack_39 : decode cX5_neededSlack 39 = .ok (.aload_n 0, 1) := by decide +kernel
theorem dX5_neededSlack_40 : decode cX5_neededSlack 40 = .ok (.iload_n 1, 1) := by decide +kernel
theorem dX5_neededSlack_41 : decode cX5_neededSlack 41 = .ok (.bipush 17, 2) := by decide +kernel
theorem dX5_neededSlack_43 : decode cX5_neededSlack 43 = .ok (.invokevirtual 144, 3) := by decide +kernel
theorem dX5_neededSlack_46 : decode cX5_neededSlack 46 = .ok (.ifCond .ne 8, 3) := by decide +kernel
theorem dX5_neededSlack_49 : decode cX5_neededSlack 49 = .ok (.iload 4, 2) := by decide +kernel
theorem dX5_neededSlack_51 : decode cX5_neededSlack 51 = .ok (.goto 4, 3) := by decide +kernel
theorem dX5_neededSlack_54 : decode cX5_neededSlack 54 = .ok (.iload_n 3, 1) := by decide +kernel
theorem dX5_neededSlack_55 : decode cX5_neededSlack 55 = .ok (.istore_n 3, 1) := by decide +kernel
theorem dX5_neededSlack_56 : decode cX5_neededSlack 56 = .ok (.iinc 4 (-1), 3) := by decide +kernel
theorem dX5_neededSlack_59 : decode cX5_neededSlack 59 = .ok (.goto (-34), 3) := by decide +kernel
theorem dX5_neededSlack_62 : decode cX5_neededSlack 62 = .ok (.aload_n 0, 1) := by decide +kernel
theorem dX5_neededSlack_63 : decode cX5_neededSlack 63 = .ok (.getfield 7, 3) := by decide +kernel
theorem dX5_neededSlack_66 : decode cX5_neededSlack 66 = .ok (.bipush 18, 2) := by decide +kernel
theorem dX5_neededSlack_68 : decode cX5_neededSlack 68 = .ok (.iload_n 2, 1) := by decide +kernel
theorem dX5_neededSlack_69 : decode cX5_neededSlack 69 = .ok (.iastore, 1) := by decide +kernel
theorem dX5_neededSlack_70 : decode cX5_neededSlack 70 = .ok (.iload_n 3, 1) := by decide +kernel
theorem dX5_neededSlack_71 : decode cX5_neededSlack 71 = .ok (.ireturn, 1) := by decide +kernel
set_option maxRecDepth 20000 in
theorem ggX5_put__X5_in : GoodIn wsX5_put_ wsX5_in := goodIn_r _ [9] (by decide +kernel) (by decide +kernel)
set_option maxRecDepth 20000 in
theorem gX5_put__X5_in : GoodIn wsX5_put_ (va_wsS RX5 36 yX5_in wsX5_in) := goodIn_app (goodIn_of _ (by decide +kernel)) ggX5_put__X5_in
theorem dX5_put__0 : decode cX5_put_ 0 = .ok (.iconst 0, 1) := by decide +kernel
theorem dX5_put__1 : decode cX5_put_ 1 = .ok (.istore_n 3, 1) := by decide +kernel
theorem dX5_put__2 : decode cX5_put_ 2 = .ok (.iconst 1, 1) := by decide +kernel
theorem dX5_put__3 : decode cX5_put_ 3 = .ok (.istore 4, 2) := by decide +kernel
theorem dX5_put__5 : decode cX5_put_ 5 = .ok (.lload_n 1, 1) := by decide +kernel
theorem dX5_put__6 : decode cX5_put_ 6 = .ok (.lstore 5, 2) := by decide +kernel
theorem dX5_put__8 : decode cX5_put_ 8 = .ok (.iload_n 3, 1) := by decide +kernel
theorem dX5_put__9 : decode cX5_put_ 9 = .ok (.bipush 8, 2) := by decide +kernel
theorem dX5_put__11 : decode cX5_put_ 11 = .ok (.if_icmp .ge 57, 3) := by decide +kernel
theorem dX5_put__14 : decode cX5_put_ 14 = .ok (.lload 5, 2) := by decide +kernel
theorem dX5_put__16 : decode cX5_put_ 16 = .ok (.ldc2_w 147, 3) := by decide +kernel
theorem dX5_put__19 : decode cX5_put_ 19 = .ok (.land, 1) := by decide +kernel
theorem dX5_put__20 : decode cX5_put_ 20 = .ok (.lconst 0, 1) := by decide +kernel
theorem dX5_put__21 : decode cX5_put_ 21 = .ok (.lcmp, 1) := by decide +kernel
theorem dX5_put__22 : decode cX5_put_ 22 = .ok (.ifCond .eq 46, 3) := by decide +kernel
theorem dX5_put__25 : decode cX5_put_ 25 = .ok (.iload 4, 2) := by decide +kernel
theorem dX5_put__27 : decode cX5_put_ 27 = .ok (.ifCond .eq 25, 3) := by decide +kernel
theorem dX5_put__30 : decode cX5_put_ 30 = .ok (.lload 5, 2) := by decide +kernel
theorem dX5_put__32 : decode cX5_put_ 32 = .ok (.ldc2_w 147, 3) := by decide +kernel
theorem dX5_put__35 : decode cX5_put_ 35 = .ok (.land, 1) := by decide +kernel
theorem dX5_put__36 : decode cX5_put_ 36 = .ok (.ldc2_w 149, 3) := by decide +kernel
theorem dX5_put__39 : decode cX5_put_ 39 = .ok (.ldc2_w 151, 3) := by decide +kernel
theorem dX5_put__42 : decode cX5_put_ 42 = .ok (.invokestatic 36, 3) := by decide +kernel
theorem dX5_put__45 : decode cX5_put_ 45 = .ok (.ifCond .eq 7, 3) := by decide +kernel
theorem dX5_put__48 : decode cX5_put_ 48 = .ok (.iconst 1, 1) := by decide +kernel
theorem dX5_put__49 : decode cX5_put_ 49 = .ok (.goto 4, 3) := by decide +kernel
theorem dX5_put__52 : decode cX5_put_ 52 = .ok (.iconst 0, 1) := by decide +kernel
theorem dX5_put__53 : decode cX5_put_ 53 = .ok (.istore 4, 2) := by decide +kernel
theorem dX5_put__55 : decode cX5_put_ 55 = .ok (.lload 5, 2) := by decide +kernel
theorem dX5_put__57 : decode cX5_put_ 57 = .ok (.bipush 8, 2) := by decide +kernel
theorem dX5_put__59 : decode cX5_put_ 59 = .ok (.lushr, 1) := by decide +kernel
theorem dX5_put__60 : decode cX5_put_ 60 = .ok (.lstore 5, 2) := by decide +kernel
theorem dX5_put__62 : decode cX5_put_ 62 = .ok (.iinc 3 1, 3) := by decide +kernel
theorem dX5_put__65 : decode cX5_put_ 65 = .ok (.goto (-57), 3) := by decide +kernel
theorem dX5_put__68 : decode cX5_put_ 68 = .ok (.iload_n 3, 1) := by decide +kernel
theorem dX5_put__69 : decode cX5_put_ 69 = .ok (.ifCond .eq 15, 3) := by decide +kernel
theorem dX5_put__72 : decode cX5_put_ 72 = .ok (.lload 5, 2) := by decide +kernel
theorem dX5_put__74 : decode cX5_put_ 74 = .ok (.lconst 0, 1) := by decide +kernel
theorem dX5_put__75 : decode cX5_put_ 75 = .ok (.lcmp, 1) := by decide +kernel
theorem dX5_put__76 : decode cX5_put_ 76 = .ok (.ifCond .ne 8, 3) := by decide +kernel
theorem dX5_put__79 : decode cX5_put_ 79 = .ok (.iload 4, 2) := by decide +kernel
theorem dX5_put__81 : decode cX5_put_ 81 = .ok (.ifCond .ne 6, 3) := by decide +kernel
theorem dX5_put__84 : decode cX5_put_ 84 = .ok (.bipush (-2), 2) := by decide +kernel
theorem dX5_put__86 : decode cX5_put_ 86 = .ok (.ireturn, 1) := by decide +kernel
theorem dX5_put__87 : decode cX5_put_ 87 = .ok (.aload_n 0, 1) := by decide +kernel
theorem dX5_put__88 : decode cX5_put_ 88 = .ok (.getfield 136, 3) := by decide +kernel
theorem dX5_put__91 : decode cX5_put_ 91 = .ok (.iload_n 3, 1) := by decide +kernel
theorem dX5_put__92 : decode cX5_put_ 92 = .ok (.iadd, 1) := by decide +kernel
theorem dX5_put__93 : decode cX5_put_ 93 = .ok (.bipush 60, 2) := by decide +kernel
theorem dX5_put__95 : decode cX5_put_ 95 = .ok (.if_icmp .le 6, 3) := by decide +kernel
theorem dX5_put__98 : decode cX5_put_ 98 = .ok (.bipush (-4), 2) := by decide +kernel
theorem dX5_put__100 : decode cX5_put_ 100 = .ok (.ireturn, 1) := by decide +kernel
theorem dX5_put__101 : decode cX5_put_ 101 = .ok (.iload_n 3, 1) := by decide +kernel
theorem dX5_put__102 : decode cX5_put_ 102 = .ok (.iconst 1, 1) := by decide +kernel
theorem dX5_put__103 : decode cX5_put_ 103 = .ok (.isub, 1) := by decide +kernel
theorem dX5_put__104 : decode cX5_put_ 104 = .ok (.istore 7, 2) := by decide +kernel
theorem dX5_put__106 : decode cX5_put_ 106 = .ok (.iload 7, 2) := by decide +kernel
theorem dX5_put__108 : decode cX5_put_ 108 = .ok (.ifCond .lt 40, 3) := by decide +kernel
theorem dX5_put__111 : decode cX5_put_ 111 = .ok (.aload_n 0, 1) := by decide +kernel
theorem dX5_put__112 : decode cX5_put_ 112 = .ok (.getfield 25, 3) := by decide +kernel
theorem dX5_put__115 : decode cX5_put_ 115 = .ok (.aload_n 0, 1) := by decide +kernel
theorem dX5_put__116 : decode cX5_put_ 116 = .ok (.getfield 136, 3) := by decide +kernel
theorem dX5_put__119 : decode cX5_put_ 119 = .ok (.lload_n 1, 1) := by decide +kernel
theorem dX5_put__120 : decode cX5_put_ 120 = .ok (.bipush 8, 2) := by decide +kernel
theorem dX5_put__122 : decode cX5_put_ 122 = .ok (.iload 7, 2) := by decide +kernel
theorem dX5_put__124 : decode cX5_put_ 124 = .ok (.imul, 1) := by decide +kernel
theorem dX5_put__125 : decode cX5_put_ 125 = .ok (.lushr, 1) := by decide +kernel
theorem dX5_put__126 : decode cX5_put_ 126 = .ok (.ldc2_w 147, 3) := by decide +kernel
theorem dX5_put__129 : decode cX5_put_ 129 = .ok (.land, 1) := by decide +kernel
theorem dX5_put__130 : decode cX5_put_ 130 = .ok (.l2i, 1) := by decide +kernel
theorem dX5_put__131 : decode cX5_put_ 131 = .ok (.iastore, 1) := by decide +kernel
theorem dX5_put__132 : decode cX5_put_ 132 = .ok (.aload_n 0, 1) := by decide +kernel
theorem dX5_put__133 : decode cX5_put_ 133 = .ok (.dup, 1) := by decide +kernel
theorem dX5_put__134 : decode cX5_put_ 134 = .ok (.getfield 136, 3) := by decide +kernel
theorem dX5_put__137 : decode cX5_put_ 137 = .ok (.iconst 1, 1) := by decide +kernel
theorem dX5_put__138 : decode cX5_put_ 138 = .ok (.iadd, 1) := by decide +kernel
theorem dX5_put__139 : decode cX5_put_ 139 = .ok (.putfield 136, 3) := by decide +kernel
theorem dX5_put__142 : decode cX5_put_ 142 = .ok (.iinc 7 (-1), 3) := by decide +kernel
theorem dX5_put__145 : decode cX5_put_ 145 = .ok (.goto (-39), 3) := by decide +kernel
theorem dX5_put__148 : decode cX5_put_ 148 = .ok (.aload_n 0, 1) := by decide +kernel
theorem dX5_put__149 : decode cX5_put_ 149 = .ok (.getfield 136, 3) := by decide +kernel
theorem dX5_put__152 : decode cX5_put_ 152 = .ok (.ireturn, 1) := by decide +kernel
theorem dX5_wipe_0 : decode cX5_wipe 0 = .ok (.aload_n 0, 1) := by decide +kernel
theorem dX5_wipe_1 : decode cX5_wipe 1 = .ok (.getfield 136, 3) := by decide +kernel
theorem dX5_wipe_4 : decode cX5_wipe 4 = .ok (.istore_n 1, 1) := by decide +kernel
theorem dX5_wipe_5 : decode cX5_wipe 5 = .ok (.aload_n 0, 1) := by decide +kernel
theorem dX5_wipe_6 : decode cX5_wipe 6 = .ok (.iconst 0, 1) := by decide +kernel
theorem dX5_wipe_7 : decode cX5_wipe 7 = .ok (.putfield 136, 3) := by decide +kernel
theorem dX5_wipe_10 : decode cX5_wipe 10 = .ok (.iload_n 1, 1) := by decide +kernel
theorem dX5_wipe_11 : decode cX5_wipe 11 = .ok (.ireturn, 1) := by decide +kernel
set_option maxRecDepth 20000 in
theorem ggX5_isHere_X5_in : GoodIn wsX5_isHere wsX5_in := goodIn_r _ [7] (by decide +kernel) (by decide +kernel)
set_option maxRecDepth 20000 in
theorem gX5_isHere_X5_in : GoodIn wsX5_isHere (va_wsS RX5 36 yX5_in wsX5_in) := goodIn_app (goodIn_of _ (by decide +kernel)) ggX5_isHere_X5_in
theorem dX5_isHere_0 : decode cX5_isHere 0 = .ok (.aload_n 0, 1) := by decide +kernel
theorem dX5_isHere_1 : decode cX5_isHere 1 = .ok (.getfield 153, 3) := by decide +kernel
theorem dX5_isHere_4 : decode cX5_isHere 4 = .ok (.aload_n 0, 1) := by decide +kernel
theorem dX5_isHere_5 : decode cX5_isHere 5 = .ok (.getfield 136, 3) := by decide +kernel
theorem dX5_isHere_8 : decode cX5_isHere 8 = .ok (.if_icmp .ge 27, 3) := by decide +kernel
theorem dX5_isHere_11 : decode cX5_isHere 11 = .ok (.aload_n 0, 1) := by decide +kernel
theorem dX5_isHere_12 : decode cX5_isHere 12 = .ok (.getfield 25, 3) := by decide +kernel
theorem dX5_isHere_15 : decode cX5_isHere 15 = .ok (.aload_n 0, 1) := by decide +kernel
theorem dX5_isHere_16 : decode cX5_isHere 16 = .ok (.getfield 153, 3) := by decide +kernel
theorem dX5_isHere_19 : decode cX5_isHere 19 = .ok (.iaload, 1) := by decide +kernel
theorem dX5_isHere_20 : decode cX5_isHere 20 = .ok (.i2l, 1) := by decide +kernel
theorem dX5_isHere_21 : decode cX5_isHere 21 = .ok (.iload_n 1, 1) := by decide +kernel
theorem dX5_isHere_22 : decode cX5_isHere 22 = .ok (.i2l, 1) := by decide +kernel
theorem dX5_isHere_23 : decode cX5_isHere 23 = .ok (.iload_n 2, 1) := by decide +kernel
theorem dX5_isHere_24 : decode cX5_isHere 24 = .ok (.i2l, 1) := by decide +kernel
theorem dX5_isHere_25 : decode cX5_isHere 25 = .ok (.invokestatic 36, 3) := by decide +kernel
theorem dX5_isHere_28 : decode cX5_isHere 28 = .ok (.ifCond .eq 7, 3) := by decide +kernel
theorem dX5_isHere_31 : decode cX5_isHere 31 = .ok (.iconst 1, 1) := by decide +kernel
theorem dX5_isHere_32 : decode cX5_isHere 32 = .ok (.goto 4, 3) := by decide +kernel
theorem dX5_isHere_35 : decode cX5_isHere 35 = .ok (.iconst 0, 1) := by decide +kernel
theorem dX5_isHere_36 : decode cX5_isHere 36 = .ok (.ireturn, 1) := by decide +kernel
set_option maxRecDepth 20000 in
theorem ggX5_takes_X5_isHere : GoodIn wsX5_takes wsX5_isHere := goodIn_r _ [6, 1, 7, 8, 9, 10, 5, 11, 12, 13, 14, 15, 16, 17, 18, 19, 20, 21, 22, 23] (by decide +kernel) (by decide +kernel)
set_option maxRecDepth 20000 in
theorem gX5_takes_X5_isHere : GoodIn wsX5_takes (wsV RX5 156 RX5 yX5_isHere wsX5_isHere) := goodIn_app (goodIn_of _ (by decide +kernel)) ggX5_takes_X5_isHere
theorem dX5_takes_0 : decode cX5_takes 0 = .ok (.aload_n 0, 1) := by decide +kernel
theorem dX5_takes_1 : decode cX5_takes 1 = .ok (.iload_n 1, 1) := by decide +kernel
theorem dX5_takes_2 : decode cX5_takes 2 = .ok (.iload_n 1, 1) := by decide +kernel
theorem dX5_takes_3 : decode cX5_takes 3 = .ok (.invokevirtual 156, 3) := by decide +kernel
theorem dX5_takes_6 : decode cX5_takes 6 = .ok (.istore_n 2, 1) := by decide +kernel
theorem dX5_takes_7 : decode cX5_takes 7 = .ok (.aload_n 0, 1) := by decide +kernel
theorem dX5_takes_8 : decode cX5_takes 8 = .ok (.dup, 1) := by decide +kernel
theorem dX5_takes_9 : decode cX5_takes 9 = .ok (.getfield 153, 3) := by decide +kernel
theorem dX5_takes_12 : decode cX5_takes 12 = .ok (.iload_n 2, 1) := by decide +kernel
theorem dX5_takes_13 : decode cX5_takes 13 = .ok (.ifCond .eq 7, 3) := by decide +kernel
theorem dX5_takes_16 : decode cX5_takes 16 = .ok (.iconst 1, 1) := by decide +kernel
theorem dX5_takes_17 : decode cX5_takes 17 = .ok (.goto 4, 3) := by decide +kernel
theorem dX5_takes_20 : decode cX5_takes 20 = .ok (.iconst 0, 1) := by decide +kernel
theorem dX5_takes_21 : decode cX5_takes 21 = .ok (.iadd, 1) := by decide +kernel
theorem dX5_takes_22 : decode cX5_takes 22 = .ok (.putfield 153, 3) := by decide +kernel
theorem dX5_takes_25 : decode cX5_takes 25 = .ok (.iload_n 2, 1) := by decide +kernel
theorem dX5_takes_26 : decode cX5_takes 26 = .ok (.ireturn, 1) := by decide +kernel
set_option maxRecDepth 20000 in
theorem ggX5_readsNumber_X5_isHere : GoodIn wsX5_readsNumber wsX5_isHere := goodIn_r _ [8, 2, 9, 1, 10, 11, 7, 12, 13, 14, 15, 16, 17, 18, 19, 20, 21, 22, 23, 24] (by decide +kernel) (by decide +kernel)
set_option maxRecDepth 20000 in
theorem gX5_readsNumber_X5_isHere : GoodIn wsX5_readsNumber (wsV RX5 156 RX5 yX5_isHere wsX5_isHere) := goodIn_app (goodIn_of _ (by decide +kernel)) ggX5_readsNumber_X5_isHere
theorem dX5_readsNumber_0 : decode cX5_readsNumber 0 = .ok (.aload_n 0, 1) := by decide +kernel
theorem dX5_readsNumber_1 : decode cX5_readsNumber 1 = .ok (.bipush 48, 2) := by decide +kernel
theorem dX5_readsNumber_3 : decode cX5_readsNumber 3 = .ok (.bipush 57, 2) := by decide +kernel
theorem dX5_readsNumber_5 : decode cX5_readsNumber 5 = .ok (.invokevirtual 156, 3) := by decide +kernel
theorem dX5_readsNumber_8 : decode cX5_readsNumber 8 = .ok (.ifCond .ne 5, 3) := by decide +kernel
theorem dX5_readsNumber_11 : decode cX5_readsNumber 11 = .ok (.iconst 0, 1) := by decide +kernel
theorem dX5_readsNumber_12 : decode cX5_readsNumber 12 = .ok (.ireturn, 1) := by decide +kernel
theorem dX5_readsNumber_13 : decode cX5_readsNumber 13 = .ok (.aload_n 0, 1) := by decide +kernel
theorem dX5_readsNumber_14 : decode cX5_readsNumber 14 = .ok (.aload_n 0, 1) := by decide +kernel
theorem dX5_readsNumber_15 : decode cX5_readsNumber 15 = .ok (.getfield 25, 3) := by decide +kernel
theorem dX5_readsNumber_18 : decode cX5_readsNumber 18 = .ok (.aload_n 0, 1) := by decide +kernel
theorem dX5_readsNumber_19 : decode cX5_readsNumber 19 = .ok (.getfield 153, 3) := by decide +kernel
theorem dX5_readsNumber_22 : decode cX5_readsNumber 22 = .ok (.iaload, 1) := by decide +kernel
theorem dX5_readsNumber_23 : decode cX5_readsNumber 23 = .ok (.bipush 48, 2) := by decide +kernel
theorem dX5_readsNumber_25 : decode cX5_readsNumber 25 = .ok (.isub, 1) := by decide +kernel
theorem dX5_readsNumber_26 : decode cX5_readsNumber 26 = .ok (.putfield 159, 3) := by decide +kernel
theorem dX5_readsNumber_29 : decode cX5_readsNumber 29 = .ok (.aload_n 0, 1) := by decide +kernel
theorem dX5_readsNumber_30 : decode cX5_readsNumber 30 = .ok (.dup, 1) := by decide +kernel
theorem dX5_readsNumber_31 : decode cX5_readsNumber 31 = .ok (.getfield 153, 3) := by decide +kernel
theorem dX5_readsNumber_34 : decode cX5_readsNumber 34 = .ok (.iconst 1, 1) := by decide +kernel
theorem dX5_readsNumber_35 : decode cX5_readsNumber 35 = .ok (.iadd, 1) := by decide +kernel
theorem dX5_readsNumber_36 : decode cX5_readsNumber 36 = .ok (.putfield 153, 3) := by decide +kernel
theorem dX5_readsNumber_39 : decode cX5_readsNumber 39 = .ok (.aload_n 0, 1) := by decide +kernel
theorem dX5_readsNumber_40 : decode cX5_readsNumber 40 = .ok (.getfield 159, 3) := by decide +kernel
theorem dX5_readsNumber_43 : decode cX5_readsNumber 43 = .ok (.ifCond .le 48, 3) := by decide +kernel
theorem dX5_readsNumber_46 : decode cX5_readsNumber 46 = .ok (.aload_n 0, 1) := by decide +kernel
theorem dX5_readsNumber_47 : decode cX5_readsNumber 47 = .ok (.bipush 48, 2) := by decide +kernel
theorem dX5_readsNumber_49 : decode cX5_readsNumber 49 = .ok (.bipush 57, 2) := by decide +kernel
theorem dX5_readsNumber_51 : decode cX5_readsNumber 51 = .ok (.invokevirtual 156, 3) := by decide +kernel
theorem dX5_readsNumber_54 : decode cX5_readsNumber 54 = .ok (.ifCond .eq 37, 3) := by decide +kernel
theorem dX5_readsNumber_57 : decode cX5_readsNumber 57 = .ok (.aload_n 0, 1) := by decide +kernel
theorem dX5_readsNumber_58 : decode cX5_readsNumber 58 = .ok (.bipush 10, 2) := by decide +kernel
theorem dX5_readsNumber_60 : decode cX5_readsNumber 60 = .ok (.aload_n 0, 1) := by decide +kernel
theorem dX5_readsNumber_61 : decode cX5_readsNumber 61 = .ok (.getfield 159, 3) := by decide +kernel
theorem dX5_readsNumber_64 : decode cX5_readsNumber 64 = .ok (.imul, 1) := by decide +kernel
theorem dX5_readsNumber_65 : decode cX5_readsNumber 65 = .ok (.aload_n 0, 1) := by decide +kernel
theorem dX5_readsNumber_66 : decode cX5_readsNumber 66 = .ok (.getfield 25, 3) := by decide +kernel
theorem dX5_readsNumber_69 : decode cX5_readsNumber 69 = .ok (.aload_n 0, 1) := by decide +kernel
theorem dX5_readsNumber_70 : decode cX5_readsNumber 70 = .ok (.getfield 153, 3) := by decide +kernel
theorem dX5_readsNumber_73 : decode cX5_readsNumber 73 = .ok (.iaload, 1) := by decide +kernel
theorem dX5_readsNumber_74 : decode cX5_readsNumber 74 = .ok (.iadd, 1) := by decide +kernel
theorem dX5_readsNumber_75 : decode cX5_readsNumber 75 = .ok (.bipush 48, 2) := by decide +kernel
theorem dX5_readsNumber_77 : decode cX5_readsNumber 77 = .ok (.isub, 1) := by decide +kernel
theorem dX5_readsNumber_78 : decode cX5_readsNumber 78 = .ok (.putfield 159, 3) := by decide +kernel
theorem dX5_readsNumber_81 : decode cX5_readsNumber 81 = .ok (.aload_n 0, 1) := by decide +kernel
theorem dX5_readsNumber_82 : decode cX5_readsNumber 82 = .ok (.dup, 1) := by decide +kernel
theorem dX5_readsNumber_83 : decode cX5_readsNumber 83 = .ok (.getfield 153, 3) := by decide +kernel
theorem dX5_readsNumber_86 : decode cX5_readsNumber 86 = .ok (.iconst 1, 1) := by decide +kernel
theorem dX5_readsNumber_87 : decode cX5_readsNumber 87 = .ok (.iadd, 1) := by decide +kernel
theorem dX5_readsNumber_88 : decode cX5_readsNumber 88 = .ok (.putfield 153, 3) := by decide +kernel
theorem dX5_readsNumber_91 : decode cX5_readsNumber 91 = .ok (.iconst 1, 1) := by decide +kernel
theorem dX5_readsNumber_92 : decode cX5_readsNumber 92 = .ok (.ireturn, 1) := by decide +kernel
set_option maxRecDepth 20000 in
theorem ggX5_readsOrder_X5_isHere : GoodIn wsX5_readsOrder wsX5_isHere := goodIn_r _ [10, 1, 2, 3, 11, 12, 9, 13, 23, 24, 25, 26, 27, 28, 29, 30, 31, 32, 33, 34] (by decide +kernel) (by decide +kernel)
set_option maxRecDepth 20000 in
theorem gX5_readsOrder_X5_isHere : GoodIn wsX5_readsOrder (wsV RX5 156 RX5 yX5_isHere wsX5_isHere) := goodIn_app (goodIn_of _ (by decide +kernel)) ggX5_readsOrder_X5_isHere
set_option maxRecDepth 20000 in
theorem ggX5_readsOrder_X5_takes : GoodIn wsX5_readsOrder wsX5_takes := goodIn_r _ [17, 1, 6, 7, 8, 9, 10, 2, 3, 11, 12, 13, 23, 24, 25, 26, 27, 28, 29, 30, 31, 32, 33, 34] (by decide +kernel) (by decide +kernel)
set_option maxRecDepth 20000 in
theorem gX5_readsOrder_X5_takes : GoodIn wsX5_readsOrder (wsV RX5 168 RX5 yX5_takes wsX5_takes) := goodIn_app (goodIn_of _ (by decide +kernel)) ggX5_readsOrder_X5_takes
set_option maxRecDepth 20000 in
theorem ggX5_readsOrder_X5_readsNumber : GoodIn wsX5_readsOrder wsX5_readsNumber := goodIn_r _ [21, 3, 1, 22, 6, 7, 8, 9, 10, 2, 11, 12, 13, 23, 24, 25, 26, 27, 28, 29, 30, 31, 32, 33, 34] (by decide +kernel) (by decide +kernel)
set_option maxRecDepth 20000 in
theorem gX5_readsOrder_X5_readsNumber : GoodIn wsX5_readsOrder (wsV RX5 171 RX5 yX5_readsNumber wsX5_readsNumber) := goodIn_app (goodIn_of _ (by decide +kernel)) ggX5_readsOrder_X5_readsNumber
theorem dX5_readsOrder_0 : decode cX5_readsOrder 0 = .ok (.aload_n 0, 1) := by decide +kernel
theorem dX5_readsOrder_1 : decode cX5_readsOrder 1 = .ok (.aload_n 0, 1) := by decide +kernel
theorem dX5_readsOrder_2 : decode cX5_readsOrder 2 = .ok (.getfield 153, 3) := by decide +kernel
theorem dX5_readsOrder_5 : decode cX5_readsOrder 5 = .ok (.aload_n 0, 1) := by decide +kernel
theorem dX5_readsOrder_6 : decode cX5_readsOrder 6 = .ok (.getfield 136, 3) := by decide +kernel
theorem dX5_readsOrder_9 : decode cX5_readsOrder 9 = .ok (.if_icmp .ge 15, 3) := by decide +kernel
theorem dX5_readsOrder_12 : decode cX5_readsOrder 12 = .ok (.aload_n 0, 1) := by decide +kernel
theorem dX5_readsOrder_13 : decode cX5_readsOrder 13 = .ok (.getfield 25, 3) := by decide +kernel
theorem dX5_readsOrder_16 : decode cX5_readsOrder 16 = .ok (.aload_n 0, 1) := by decide +kernel
theorem dX5_readsOrder_17 : decode cX5_readsOrder 17 = .ok (.getfield 153, 3) := by decide +kernel
theorem dX5_readsOrder_20 : decode cX5_readsOrder 20 = .ok (.iaload, 1) := by decide +kernel
theorem dX5_readsOrder_21 : decode cX5_readsOrder 21 = .ok (.goto 4, 3) := by decide +kernel
theorem dX5_readsOrder_24 : decode cX5_readsOrder 24 = .ok (.iconst 0, 1) := by decide +kernel
theorem dX5_readsOrder_25 : decode cX5_readsOrder 25 = .ok (.putfield 162, 3) := by decide +kernel
theorem dX5_readsOrder_28 : decode cX5_readsOrder 28 = .ok (.aload_n 0, 1) := by decide +kernel
theorem dX5_readsOrder_29 : decode cX5_readsOrder 29 = .ok (.getfield 162, 3) := by decide +kernel
theorem dX5_readsOrder_32 : decode cX5_readsOrder 32 = .ok (.bipush 98, 2) := by decide +kernel
theorem dX5_readsOrder_34 : decode cX5_readsOrder 34 = .ok (.if_icmp .eq 32, 3) := by decide +kernel
theorem dX5_readsOrder_37 : decode cX5_readsOrder 37 = .ok (.aload_n 0, 1) := by decide +kernel
theorem dX5_readsOrder_38 : decode cX5_readsOrder 38 = .ok (.getfield 162, 3) := by decide +kernel
theorem dX5_readsOrder_41 : decode cX5_readsOrder 41 = .ok (.bipush 119, 2) := by decide +kernel
theorem dX5_readsOrder_43 : decode cX5_readsOrder 43 = .ok (.if_icmp .eq 23, 3) := by decide +kernel
theorem dX5_readsOrder_46 : decode cX5_readsOrder 46 = .ok (.aload_n 0, 1) := by decide +kernel
theorem dX5_readsOrder_47 : decode cX5_readsOrder 47 = .ok (.getfield 162, 3) := by decide +kernel
theorem dX5_readsOrder_50 : decode cX5_readsOrder 50 = .ok (.bipush 115, 2) := by decide +kernel
theorem dX5_readsOrder_52 : decode cX5_readsOrder 52 = .ok (.if_icmp .eq 14, 3) := by decide +kernel
theorem dX5_readsOrder_55 : decode cX5_readsOrder 55 = .ok (.aload_n 0, 1) := by decide +kernel
theorem dX5_readsOrder_56 : decode cX5_readsOrder 56 = .ok (.getfield 162, 3) := by decide +kernel
theorem dX5_readsOrder_59 : decode cX5_readsOrder 59 = .ok (.bipush 116, 2) := by decide +kernel
theorem dX5_readsOrder_61 : decode cX5_readsOrder 61 = .ok (.if_icmp .eq 5, 3) := by decide +kernel
theorem dX5_readsOrder_64 : decode cX5_readsOrder 64 = .ok (.iconst 0, 1) := by decide +kernel
theorem dX5_readsOrder_65 : decode cX5_readsOrder 65 = .ok (.ireturn, 1) := by decide +kernel
theorem dX5_readsOrder_66 : decode cX5_readsOrder 66 = .ok (.aload_n 0, 1) := by decide +kernel
theorem dX5_readsOrder_67 : decode cX5_readsOrder 67 = .ok (.dup, 1) := by decide +kernel
theorem dX5_readsOrder_68 : decode cX5_readsOrder 68 = .ok (.getfield 153, 3) := by decide +kernel
theorem dX5_readsOrder_71 : decode cX5_readsOrder 71 = .ok (.iconst 1, 1) := by decide +kernel
theorem dX5_readsOrder_72 : decode cX5_readsOrder 72 = .ok (.iadd, 1) := by decide +kernel
theorem dX5_readsOrder_73 : decode cX5_readsOrder 73 = .ok (.putfield 153, 3) := by decide +kernel
theorem dX5_readsOrder_76 : decode cX5_readsOrder 76 = .ok (.aload_n 0, 1) := by decide +kernel
theorem dX5_readsOrder_77 : decode cX5_readsOrder 77 = .ok (.getfield 162, 3) := by decide +kernel
theorem dX5_readsOrder_80 : decode cX5_readsOrder 80 = .ok (.bipush 116, 2) := by decide +kernel
theorem dX5_readsOrder_82 : decode cX5_readsOrder 82 = .ok (.if_icmp .ne 53, 3) := by decide +kernel
theorem dX5_readsOrder_85 : decode cX5_readsOrder 85 = .ok (.aload_n 0, 1) := by decide +kernel
theorem dX5_readsOrder_86 : decode cX5_readsOrder 86 = .ok (.bipush 48, 2) := by decide +kernel
theorem dX5_readsOrder_88 : decode cX5_readsOrder 88 = .ok (.bipush 55, 2) := by decide +kernel
theorem dX5_readsOrder_90 : decode cX5_readsOrder 90 = .ok (.invokevirtual 156, 3) := by decide +kernel
theorem dX5_readsOrder_93 : decode cX5_readsOrder 93 = .ok (.ifCond .ne 5, 3) := by decide +kernel
theorem dX5_readsOrder_96 : decode cX5_readsOrder 96 = .ok (.iconst 0, 1) := by decide +kernel
theorem dX5_readsOrder_97 : decode cX5_readsOrder 97 = .ok (.ireturn, 1) := by decide +kernel
theorem dX5_readsOrder_98 : decode cX5_readsOrder 98 = .ok (.aload_n 0, 1) := by decide +kernel
theorem dX5_readsOrder_99 : decode cX5_readsOrder 99 = .ok (.aload_n 0, 1) := by decide +kernel
theorem dX5_readsOrder_100 : decode cX5_readsOrder 100 = .ok (.getfield 25, 3) := by decide +kernel
theorem dX5_readsOrder_103 : decode cX5_readsOrder 103 = .ok (.aload_n 0, 1) := by decide +kernel
theorem dX5_readsOrder_104 : decode cX5_readsOrder 104 = .ok (.getfield 153, 3) := by decide +kernel
theorem dX5_readsOrder_107 : decode cX5_readsOrder 107 = .ok (.iaload, 1) := by decide +kernel
theorem dX5_readsOrder_108 : decode cX5_readsOrder 108 = .ok (.bipush 48, 2) := by decide +kernel
theorem dX5_readsOrder_110 : decode cX5_readsOrder 110 = .ok (.isub, 1) := by decide +kernel
theorem dX5_readsOrder_111 : decode cX5_readsOrder 111 = .ok (.putfield 165, 3) := by decide +kernel
theorem dX5_readsOrder_114 : decode cX5_readsOrder 114 = .ok (.aload_n 0, 1) := by decide +kernel
theorem dX5_readsOrder_115 : decode cX5_readsOrder 115 = .ok (.dup, 1) := by decide +kernel
theorem dX5_readsOrder_116 : decode cX5_readsOrder 116 = .ok (.getfield 153, 3) := by decide +kernel
theorem dX5_readsOrder_119 : decode cX5_readsOrder 119 = .ok (.iconst 1, 1) := by decide +kernel
theorem dX5_readsOrder_120 : decode cX5_readsOrder 120 = .ok (.iadd, 1) := by decide +kernel
theorem dX5_readsOrder_121 : decode cX5_readsOrder 121 = .ok (.putfield 153, 3) := by decide +kernel
theorem dX5_readsOrder_124 : decode cX5_readsOrder 124 = .ok (.aload_n 0, 1) := by decide +kernel
theorem dX5_readsOrder_125 : decode cX5_readsOrder 125 = .ok (.bipush 61, 2) := by decide +kernel
theorem dX5_readsOrder_127 : decode cX5_readsOrder 127 = .ok (.invokevirtual 168, 3) := by decide +kernel
theorem dX5_readsOrder_130 : decode cX5_readsOrder 130 = .ok (.ifCond .ne 5, 3) := by decide +kernel
theorem dX5_readsOrder_133 : decode cX5_readsOrder 133 = .ok (.iconst 0, 1) := by decide +kernel
theorem dX5_readsOrder_134 : decode cX5_readsOrder 134 = .ok (.ireturn, 1) := by decide +kernel
theorem dX5_readsOrder_135 : decode cX5_readsOrder 135 = .ok (.aload_n 0, 1) := by decide +kernel
theorem dX5_readsOrder_136 : decode cX5_readsOrder 136 = .ok (.invokevirtual 171, 3) := by decide +kernel
theorem dX5_readsOrder_139 : decode cX5_readsOrder 139 = .ok (.ireturn, 1) := by decide +kernel
set_option maxRecDepth 20000 in
theorem ggX5_fault_X5_readsOrder : GoodIn wsX5_fault wsX5_readsOrder := goodIn_r _ [7, 1, 2, 8, 9, 10, 11, 12, 13, 6, 14, 15, 16, 17, 18, 19, 20, 21, 22, 23, 24, 25, 26, 27, 28, 29, 30, 31, 32, 33, 34, 35, 36, 37, 38] (by decide +kernel) (by decide +kernel)
set_option maxRecDepth 20000 in
theorem gX5_fault_X5_readsOrder : GoodIn wsX5_fault (wsV RX5 175 RX5 yX5_readsOrder wsX5_readsOrder) := goodIn_app (goodIn_of _ (by decide +kernel)) ggX5_fault_X5_readsOrder
set_option maxRecDepth 20000 in
theorem ggX5_fault_X5_takes : GoodIn wsX5_fault wsX5_takes := goodIn_r _ [21, 1, 11, 12, 13, 6, 14, 2, 8, 15, 16, 17, 27, 28, 29, 30, 31, 32, 33, 34, 35, 36, 37, 38] (by decide +kernel) (by decide +kernel)
set_option maxRecDepth 20000 in
theorem gX5_fault_X5_takes : GoodIn wsX5_fault (wsV RX5 168 RX5 yX5_takes wsX5_takes) := goodIn_app (goodIn_of _ (by decide +kernel)) ggX5_fault_X5_takes
theorem dX5_fault_0 : decode cX5_fault 0 = .ok (.aload_n 0, 1) := by decide +kernel
theorem dX5_fault_1 : decode cX5_fault 1 = .ok (.iconst 0, 1) := by decide +kernel
theorem dX5_fault_2 : decode cX5_fault 2 = .ok (.putfield 153, 3) := by decide +kernel
theorem dX5_fault_5 : decode cX5_fault 5 = .ok (.iconst 1, 1) := by decide +kernel
theorem dX5_fault_6 : decode cX5_fault 6 = .ok (.istore_n 1, 1) := by decide +kernel
theorem dX5_fault_7 : decode cX5_fault 7 = .ok (.iload_n 1, 1) := by decide +kernel
theorem dX5_fault_8 : decode cX5_fault 8 = .ok (.ifCond .eq 25, 3) := by decide +kernel
theorem dX5_fault_11 : decode cX5_fault 11 = .ok (.aload_n 0, 1) := by decide +kernel
theorem dX5_fault_12 : decode cX5_fault 12 = .ok (.invokevirtual 175, 3) := by decide +kernel
theorem dX5_fault_15 : decode cX5_fault 15 = .ok (.ifCond .ne 8, 3) := by decide +kernel
theorem dX5_fault_18 : decode cX5_fault 18 = .ok (.aload_n 0, 1) := by decide +kernel
theorem dX5_fault_19 : decode cX5_fault 19 = .ok (.getfield 153, 3) := by decide +kernel
theorem dX5_fault_22 : decode cX5_fault 22 = .ok (.ireturn, 1) := by decide +kernel
theorem dX5_fault_23 : decode cX5_fault 23 = .ok (.aload_n 0, 1) := by decide +kernel
theorem dX5_fault_24 : decode cX5_fault 24 = .ok (.bipush 59, 2) := by decide +kernel
theorem dX5_fault_26 : decode cX5_fault 26 = .ok (.invokevirtual 168, 3) := by decide +kernel
theorem dX5_fault_29 : decode cX5_fault 29 = .ok (.istore_n 1, 1) := by decide +kernel
theorem dX5_fault_30 : decode cX5_fault 30 = .ok (.goto (-23), 3) := by decide +kernel
theorem dX5_fault_33 : decode cX5_fault 33 = .ok (.aload_n 0, 1) := by decide +kernel
theorem dX5_fault_34 : decode cX5_fault 34 = .ok (.getfield 153, 3) := by decide +kernel
theorem dX5_fault_37 : decode cX5_fault 37 = .ok (.aload_n 0, 1) := by decide +kernel
theorem dX5_fault_38 : decode cX5_fault 38 = .ok (.getfield 136, 3) := by decide +kernel
theorem dX5_fault_41 : decode cX5_fault 41 = .ok (.if_icmp .ne 8, 3) := by decide +kernel
theorem dX5_fault_44 : decode cX5_fault 44 = .ok (.bipush (-6), 2) := by decide +kernel
theorem dX5_fault_46 : decode cX5_fault 46 = .ok (.goto 7, 3) := by decide +kernel
theorem dX5_fault_49 : decode cX5_fault 49 = .ok (.aload_n 0, 1) := by decide +kernel
theorem dX5_fault_50 : decode cX5_fault 50 = .ok (.getfield 153, 3) := by decide +kernel
theorem dX5_fault_53 : decode cX5_fault 53 = .ok (.ireturn, 1) := by decide +kernel
set_option maxRecDepth 20000 in
theorem ggX5_doOrder_X5_doArrive : GoodIn wsX5_doOrder wsX5_doArrive := goodIn_r _ [8, 9, 10, 11, 7, 12, 13, 14, 15, 16, 17, 18, 19, 20, 21, 22, 23, 24, 25, 26, 27, 28, 29, 101, 102, 103, 104, 105, 106, 107, 108, 109, 110, 111, 112] (by decide +kernel) (by decide +kernel)
set_option maxRecDepth 20000 in
theorem gX5_doOrder_X5_doArrive : GoodIn wsX5_doOrder (wsV RX5 121 RX5 yX5_doArrive wsX5_doArrive) := goodIn_app (goodIn_of _ (by decide +kernel)) ggX5_doOrder_X5_doArrive
set_option maxRecDepth 20000 in
theorem ggX5_doOrder_X5_doPass : GoodIn wsX5_doOrder wsX5_doPass := goodIn_r _ [33, 9, 34, 35, 7, 36, 37, 15, 16, 17, 38, 39, 40, 41, 42, 43, 44, 45, 46, 47, 48, 49, 22, 23, 24, 25, 26, 27, 28, 29, 50, 51, 52, 53, 54, 55, 56, 57, 58, 59, 60, 61, 62, 63, 64, 65, 66, 67, 68, 69, 70, 71, 72, 73, 74, 75, 76, 77, 18, 19, 20, 21, 78, 79, 80, 81, 101, 102, 103, 104, 105, 106, 107, 108, 109, 110, 111, 112] (by decide +kernel) (by decide +kernel)
set_option maxRecDepth 20000 in
theorem gX5_doOrder_X5_doPass : GoodIn wsX5_doOrder (wsV RX5 127 RX5 yX5_doPass wsX5_doPass) := goodIn_app (goodIn_of _ (by decide +kernel)) ggX5_doOrder_X5_doPass
set_option maxRecDepth 20000 in
theorem ggX5_doOrder_X5_doSet : GoodIn wsX5_doOrder wsX5_doSet := goodIn_r _ [85, 9, 86, 87, 7, 88, 89, 90, 91, 92, 15, 16, 17, 101, 102, 103, 104, 105, 106, 107, 108, 109, 110, 111, 112] (by decide +kernel) (by decide +kernel)
set_option maxRecDepth 20000 in
theorem gX5_doOrder_X5_doSet : GoodIn wsX5_doOrder (wsV RX5 115 RX5 yX5_doSet wsX5_doSet) := goodIn_app (goodIn_of _ (by decide +kernel)) ggX5_doOrder_X5_doSet
set_option maxRecDepth 20000 in
theorem ggX5_doOrder_X5_doTurn : GoodIn wsX5_doOrder wsX5_doTurn := goodIn_r _ [96, 9, 97, 98, 99, 7, 100, 15, 16, 17, 10, 11, 12, 13, 14, 22, 23, 24, 25, 18, 19, 20, 21, 26, 27, 28, 29, 101, 102, 103, 104, 105, 106, 107, 108, 109, 110, 111, 112] (by decide +kernel) (by decide +kernel)
set_option maxRecDepth 20000 in
theorem gX5_doOrder_X5_doTurn : GoodIn wsX5_doOrder (wsV RX5 124 RX5 yX5_doTurn wsX5_doTurn) := goodIn_app (goodIn_of _ (by decide +kernel)) ggX5_doOrder_X5_doTurn
theorem dX5_doOrder_0 : decode cX5_doOrder 0 = .ok (.aload_n 0, 1) := by decide +kernel
theorem dX5_doOrder_1 : decode cX5_doOrder 1 = .ok (.getfield 162, 3) := by decide +kernel
theorem dX5_doOrder_4 : decode cX5_doOrder 4 = .ok (.bipush 98, 2) := by decide +kernel
theorem dX5_doOrder_6 : decode cX5_doOrder 6 = .ok (.if_icmp .ne 14, 3) := by decide +kernel
theorem dX5_doOrder_9 : decode cX5_doOrder 9 = .ok (.aload_n 0, 1) := by decide +kernel
theorem dX5_doOrder_10 : decode cX5_doOrder 10 = .ok (.aload_n 0, 1) := by decide +kernel
theorem dX5_doOrder_11 : decode cX5_doOrder 11 = .ok (.getfield 159, 3) := by decide +kernel
theorem dX5_doOrder_14 : decode cX5_doOrder 14 = .ok (.invokevirtual 121, 3) := by decide +kernel
theorem dX5_doOrder_17 : decode cX5_doOrder 17 = .ok (.goto 56, 3) := by decide +kernel
theorem dX5_doOrder_20 : decode cX5_doOrder 20 = .ok (.aload_n 0, 1) := by decide +kernel
theorem dX5_doOrder_21 : decode cX5_doOrder 21 = .ok (.getfield 162, 3) := by decide +kernel
theorem dX5_doOrder_24 : decode cX5_doOrder 24 = .ok (.bipush 119, 2) := by decide +kernel
theorem dX5_doOrder_26 : decode cX5_doOrder 26 = .ok (.if_icmp .ne 14, 3) := by decide +kernel
theorem dX5_doOrder_29 : decode cX5_doOrder 29 = .ok (.aload_n 0, 1) := by decide +kernel
theorem dX5_doOrder_30 : decode cX5_doOrder 30 = .ok (.aload_n 0, 1) := by decide +kernel
theorem dX5_doOrder_31 : decode cX5_doOrder 31 = .ok (.getfield 159, 3) := by decide +kernel
theorem dX5_doOrder_34 : decode cX5_doOrder 34 = .ok (.invokevirtual 127, 3) := by decide +kernel
theorem dX5_doOrder_37 : decode cX5_doOrder 37 = .ok (.goto 36, 3) := by decide +kernel
theorem dX5_doOrder_40 : decode cX5_doOrder 40 = .ok (.aload_n 0, 1) := by decide +kernel
theorem dX5_doOrder_41 : decode cX5_doOrder 41 = .ok (.getfield 162, 3) := by decide +kernel
theorem dX5_doOrder_44 : decode cX5_doOrder 44 = .ok (.bipush 115, 2) := by decide +kernel
theorem dX5_doOrder_46 : decode cX5_doOrder 46 = .ok (.if_icmp .ne 15, 3) := by decide +kernel
theorem dX5_doOrder_49 : decode cX5_doOrder 49 = .ok (.aload_n 0, 1) := by decide +kernel
theorem dX5_doOrder_50 : decode cX5_doOrder 50 = .ok (.iconst 0, 1) := by decide +kernel
theorem dX5_doOrder_51 : decode cX5_doOrder 51 = .ok (.aload_n 0, 1) := by decide +kernel
theorem dX5_doOrder_52 : decode cX5_doOrder 52 = .ok (.getfield 159, 3) := by decide +kernel
theorem dX5_doOrder_55 : decode cX5_doOrder 55 = .ok (.invokevirtual 115, 3) := by decide +kernel
theorem dX5_doOrder_58 : decode cX5_doOrder 58 = .ok (.goto 15, 3) := by decide +kernel
theorem dX5_doOrder_61 : decode cX5_doOrder 61 = .ok (.aload_n 0, 1) := by decide +kernel
theorem dX5_doOrder_62 : decode cX5_doOrder 62 = .ok (.aload_n 0, 1) := by decide +kernel
theorem dX5_doOrder_63 : decode cX5_doOrder 63 = .ok (.getfield 165, 3) := by decide +kernel
theorem dX5_doOrder_66 : decode cX5_doOrder 66 = .ok (.aload_n 0, 1) := by decide +kernel
theorem dX5_doOrder_67 : decode cX5_doOrder 67 = .ok (.getfield 159, 3) := by decide +kernel
theorem dX5_doOrder_70 : decode cX5_doOrder 70 = .ok (.invokevirtual 124, 3) := by decide +kernel
theorem dX5_doOrder_73 : decode cX5_doOrder 73 = .ok (.ireturn, 1) := by decide +kernel
set_option maxRecDepth 20000 in
theorem ggX5_carryOut_X5_fault : GoodIn wsX5_carryOut wsX5_fault := goodIn_r _ [7, 1, 2, 8, 9, 10, 6, 11, 12, 13, 14, 15, 16, 17, 18, 19, 20, 21, 22, 23, 24, 25, 26, 27, 28, 29, 30, 139, 140, 141, 142, 143, 144, 145, 146, 147, 148, 149, 150] (by decide +kernel) (by decide +kernel)
set_option maxRecDepth 20000 in
theorem gX5_carryOut_X5_fault : GoodIn wsX5_carryOut (wsV RX5 178 RX5 yX5_fault wsX5_fault) := goodIn_app (goodIn_of _ (by decide +kernel)) ggX5_carryOut_X5_fault
set_option maxRecDepth 20000 in
theorem ggX5_carryOut_X5_keep : GoodIn wsX5_carryOut wsX5_keep := goodIn_r _ [34, 35, 36, 139, 140, 141, 142, 143, 144, 145, 146, 147, 148, 149, 150] (by decide +kernel) (by decide +kernel)
set_option maxRecDepth 20000 in
theorem gX5_carryOut_X5_keep : GoodIn wsX5_carryOut (wsV RX5 112 RX5 yX5_keep wsX5_keep) := goodIn_app (goodIn_of _ (by decide +kernel)) ggX5_carryOut_X5_keep
set_option maxRecDepth 20000 in
theorem ggX5_carryOut_X5_readsOrder : GoodIn wsX5_carryOut wsX5_readsOrder := goodIn_r _ [11, 1, 2, 12, 13, 14, 15, 16, 17, 6, 18, 19, 20, 21, 22, 23, 24, 25, 26, 27, 28, 29, 30, 139, 140, 141, 142, 143, 144, 145, 146, 147, 148, 149, 150] (by decide +kernel) (by decide +kernel)
set_option maxRecDepth 20000 in
theorem gX5_carryOut_X5_readsOrder : GoodIn wsX5_carryOut (wsV RX5 175 RX5 yX5_readsOrder wsX5_readsOrder) := goodIn_app (goodIn_of _ (by decide +kernel)) ggX5_carryOut_X5_readsOrder
set_option maxRecDepth 20000 in
theorem ggX5_carryOut_X5_doOrder : GoodIn wsX5_carryOut wsX5_doOrder := goodIn_r _ [40, 13, 30, 14, 41, 42, 43, 6, 44, 36, 45, 46, 47, 48, 49, 19, 20, 21, 50, 51, 52, 53, 54, 55, 56, 57, 58, 59, 60, 61, 62, 63, 64, 65, 66, 67, 68, 69, 70, 71, 72, 73, 74, 75, 76, 77, 78, 79, 80, 81, 82, 83, 84, 85, 86, 87, 88, 89, 90, 91, 92, 93, 94, 95, 96, 97, 98, 99, 100, 101, 102, 103, 104, 105, 106, 107, 108, 109, 110, 111, 112, 113, 114, 115, 116, 117, 118, 119, 120, 121, 122, 123, 124, 125, 126, 127, 128, 129, 130, 131, 132, 139, 140, 141, 142, 143, 144, 145, 146, 147, 148, 149, 150] (by decide +kernel) (by decide +kernel)
set_option maxRecDepth 20000 in
theorem gX5_carryOut_X5_doOrder : GoodIn wsX5_carryOut (wsV RX5 181 RX5 yX5_doOrder wsX5_doOrder) := goodIn_app (goodIn_of _ (by decide +kernel)) ggX5_carryOut_X5_doOrder
set_option maxRecDepth 20000 in
theorem ggX5_carryOut_X5_takes : GoodIn wsX5_carryOut wsX5_takes := goodIn_r _ [25, 1, 15, 16, 17, 6, 18, 2, 12, 19, 20, 21, 139, 140, 141, 142, 143, 144, 145, 146, 147, 148, 149, 150] (by decide +kernel) (by decide +kernel)
set_option maxRecDepth 20000 in
theorem gX5_carryOut_X5_takes : GoodIn wsX5_carryOut (wsV RX5 168 RX5 yX5_takes wsX5_takes) := goodIn_app (goodIn_of _ (by decide +kernel)) ggX5_carryOut_X5_takes
set_option maxRecDepth 20000 in
theorem ggX5_carryOut_X5_changed : GoodIn wsX5_carryOut wsX5_changed := goodIn_r _ [136, 137, 138, 35, 139, 140, 141, 142, 143, 144, 145, 146, 147, 148, 149, 150] (by decide +kernel) (by decide +kernel)
set_option maxRecDepth 20000 in
theorem gX5_carryOut_X5_changed : GoodIn wsX5_carryOut (wsV RX5 118 RX5 yX5_changed wsX5_changed) := goodIn_app (goodIn_of _ (by decide +kernel)) ggX5_carryOut_X5_changed
theorem dX5_carryOut_0 : decode cX5_carryOut 0 = .ok (.aload_n 0, 1) := by decide +kernel
theorem dX5_carryOut_1 : decode cX5_carryOut 1 = .ok (.invokevirtual 178, 3) := by decide +kernel
theorem dX5_carryOut_4 : decode cX5_carryOut 4 = .ok (.bipush (-6), 2) := by decide +kernel
theorem dX5_carryOut_6 : decode cX5_carryOut 6 = .ok (.if_icmp .eq 6, 3) := by decide +kernel
theorem dX5_carryOut_9 : decode cX5_carryOut 9 = .ok (.bipush (-3), 2) := by decide +kernel
theorem dX5_carryOut_11 : decode cX5_carryOut 11 = .ok (.ireturn, 1) := by decide +kernel
theorem dX5_carryOut_12 : decode cX5_carryOut 12 = .ok (.aload_n 0, 1) := by decide +kernel
theorem dX5_carryOut_13 : decode cX5_carryOut 13 = .ok (.invokevirtual 112, 3) := by decide +kernel
theorem dX5_carryOut_16 : decode cX5_carryOut 16 = .ok (.aload_n 0, 1) := by decide +kernel
theorem dX5_carryOut_17 : decode cX5_carryOut 17 = .ok (.iconst 0, 1) := by decide +kernel
theorem dX5_carryOut_18 : decode cX5_carryOut 18 = .ok (.putfield 153, 3) := by decide +kernel
theorem dX5_carryOut_21 : decode cX5_carryOut 21 = .ok (.iconst 0, 1) := by decide +kernel
theorem dX5_carryOut_22 : decode cX5_carryOut 22 = .ok (.istore_n 1, 1) := by decide +kernel
theorem dX5_carryOut_23 : decode cX5_carryOut 23 = .ok (.iconst 1, 1) := by decide +kernel
theorem dX5_carryOut_24 : decode cX5_carryOut 24 = .ok (.istore_n 2, 1) := by decide +kernel
theorem dX5_carryOut_25 : decode cX5_carryOut 25 = .ok (.iload_n 2, 1) := by decide +kernel
theorem dX5_carryOut_26 : decode cX5_carryOut 26 = .ok (.ifCond .eq 57, 3) := by decide +kernel
theorem dX5_carryOut_29 : decode cX5_carryOut 29 = .ok (.aload_n 0, 1) := by decide +kernel
theorem dX5_carryOut_30 : decode cX5_carryOut 30 = .ok (.invokevirtual 175, 3) := by decide +kernel
theorem dX5_carryOut_33 : decode cX5_carryOut 33 = .ok (.ifCond .eq 50, 3) := by decide +kernel
theorem dX5_carryOut_36 : decode cX5_carryOut 36 = .ok (.aload_n 0, 1) := by decide +kernel
theorem dX5_carryOut_37 : decode cX5_carryOut 37 = .ok (.invokevirtual 181, 3) := by decide +kernel
theorem dX5_carryOut_40 : decode cX5_carryOut 40 = .ok (.ifCond .lt 7, 3) := by decide +kernel
theorem dX5_carryOut_43 : decode cX5_carryOut 43 = .ok (.iconst 1, 1) := by decide +kernel
theorem dX5_carryOut_44 : decode cX5_carryOut 44 = .ok (.goto 4, 3) := by decide +kernel
theorem dX5_carryOut_47 : decode cX5_carryOut 47 = .ok (.iconst 0, 1) := by decide +kernel
theorem dX5_carryOut_48 : decode cX5_carryOut 48 = .ok (.istore_n 2, 1) := by decide +kernel
theorem dX5_carryOut_49 : decode cX5_carryOut 49 = .ok (.iload_n 1, 1) := by decide +kernel
theorem dX5_carryOut_50 : decode cX5_carryOut 50 = .ok (.iload_n 2, 1) := by decide +kernel
theorem dX5_carryOut_51 : decode cX5_carryOut 51 = .ok (.ifCond .eq 7, 3) := by decide +kernel
theorem dX5_carryOut_54 : decode cX5_carryOut 54 = .ok (.iconst 1, 1) := by decide +kernel
theorem dX5_carryOut_55 : decode cX5_carryOut 55 = .ok (.goto 4, 3) := by decide +kernel
theorem dX5_carryOut_58 : decode cX5_carryOut 58 = .ok (.iconst 0, 1) := by decide +kernel
theorem dX5_carryOut_59 : decode cX5_carryOut 59 = .ok (.iadd, 1) := by decide +kernel
theorem dX5_carryOut_60 : decode cX5_carryOut 60 = .ok (.istore_n 1, 1) := by decide +kernel
theorem dX5_carryOut_61 : decode cX5_carryOut 61 = .ok (.iload_n 2, 1) := by decide +kernel
theorem dX5_carryOut_62 : decode cX5_carryOut 62 = .ok (.ifCond .eq 16, 3) := by decide +kernel
theorem dX5_carryOut_65 : decode cX5_carryOut 65 = .ok (.aload_n 0, 1) := by decide +kernel
theorem dX5_carryOut_66 : decode cX5_carryOut 66 = .ok (.bipush 59, 2) := by decide +kernel
theorem dX5_carryOut_68 : decode cX5_carryOut 68 = .ok (.invokevirtual 168, 3) := by decide +kernel
theorem dX5_carryOut_71 : decode cX5_carryOut 71 = .ok (.ifCond .eq 7, 3) := by decide +kernel
theorem dX5_carryOut_74 : decode cX5_carryOut 74 = .ok (.iconst 1, 1) := by decide +kernel
theorem dX5_carryOut_75 : decode cX5_carryOut 75 = .ok (.goto 4, 3) := by decide +kernel
theorem dX5_carryOut_78 : decode cX5_carryOut 78 = .ok (.iconst 0, 1) := by decide +kernel
theorem dX5_carryOut_79 : decode cX5_carryOut 79 = .ok (.istore_n 2, 1) := by decide +kernel
theorem dX5_carryOut_80 : decode cX5_carryOut 80 = .ok (.goto (-55), 3) := by decide +kernel
theorem dX5_carryOut_83 : decode cX5_carryOut 83 = .ok (.aload_n 0, 1) := by decide +kernel
theorem dX5_carryOut_84 : decode cX5_carryOut 84 = .ok (.iconst 0, 1) := by decide +kernel
theorem dX5_carryOut_85 : decode cX5_carryOut 85 = .ok (.putfield 136, 3) := by decide +kernel
theorem dX5_carryOut_88 : decode cX5_carryOut 88 = .ok (.aload_n 0, 1) := by decide +kernel
theorem dX5_carryOut_89 : decode cX5_carryOut 89 = .ok (.iload_n 1, 1) := by decide +kernel
theorem dX5_carryOut_90 : decode cX5_carryOut 90 = .ok (.invokevirtual 118, 3) := by decide +kernel
theorem dX5_carryOut_93 : decode cX5_carryOut 93 = .ok (.ireturn, 1) := by decide +kernel
theorem dX5_undo_0 : decode cX5_undo 0 = .ok (.aload_n 0, 1) := by decide +kernel
theorem dX5_undo_1 : decode cX5_undo 1 = .ok (.getfield 28, 3) := by decide +kernel
theorem dX5_undo_4 : decode cX5_undo 4 = .ok (.ifCond .ne 6, 3) := by decide +kernel
theorem dX5_undo_7 : decode cX5_undo 7 = .ok (.bipush (-5), 2) := by decide +kernel
theorem dX5_undo_9 : decode cX5_undo 9 = .ok (.ireturn, 1) := by decide +kernel
theorem dX5_undo_10 : decode cX5_undo 10 = .ok (.aload_n 0, 1) := by decide +kernel
theorem dX5_undo_11 : decode cX5_undo 11 = .ok (.dup, 1) := by decide +kernel
theorem dX5_undo_12 : decode cX5_undo 12 = .ok (.getfield 28, 3) := by decide +kernel
theorem dX5_undo_15 : decode cX5_undo 15 = .ok (.iconst 1, 1) := by decide +kernel
theorem dX5_undo_16 : decode cX5_undo 16 = .ok (.isub, 1) := by decide +kernel
theorem dX5_undo_17 : decode cX5_undo 17 = .ok (.putfield 28, 3) := by decide +kernel
theorem dX5_undo_20 : decode cX5_undo 20 = .ok (.iconst 0, 1) := by decide +kernel
theorem dX5_undo_21 : decode cX5_undo 21 = .ok (.istore_n 1, 1) := by decide +kernel
theorem dX5_undo_22 : decode cX5_undo 22 = .ok (.iload_n 1, 1) := by decide +kernel
theorem dX5_undo_23 : decode cX5_undo 23 = .ok (.sipush 160, 3) := by decide +kernel
theorem dX5_undo_26 : decode cX5_undo 26 = .ok (.if_icmp .ge 30, 3) := by decide +kernel
theorem dX5_undo_29 : decode cX5_undo 29 = .ok (.aload_n 0, 1) := by decide +kernel
theorem dX5_undo_30 : decode cX5_undo 30 = .ok (.getfield 7, 3) := by decide +kernel
theorem dX5_undo_33 : decode cX5_undo 33 = .ok (.iload_n 1, 1) := by decide +kernel
theorem dX5_undo_34 : decode cX5_undo 34 = .ok (.aload_n 0, 1) := by decide +kernel
theorem dX5_undo_35 : decode cX5_undo 35 = .ok (.getfield 16, 3) := by decide +kernel
theorem dX5_undo_38 : decode cX5_undo 38 = .ok (.sipush 160, 3) := by decide +kernel
theorem dX5_undo_41 : decode cX5_undo 41 = .ok (.aload_n 0, 1) := by decide +kernel
theorem dX5_undo_42 : decode cX5_undo 42 = .ok (.getfield 28, 3) := by decide +kernel
theorem dX5_undo_45 : decode cX5_undo 45 = .ok (.imul, 1) := by decide +kernel
theorem dX5_undo_46 : decode cX5_undo 46 = .ok (.iload_n 1, 1) := by decide +kernel
theorem dX5_undo_47 : decode cX5_undo 47 = .ok (.iadd, 1) := by decide +kernel
theorem dX5_undo_48 : decode cX5_undo 48 = .ok (.iaload, 1) := by decide +kernel
theorem dX5_undo_49 : decode cX5_undo 49 = .ok (.iastore, 1) := by decide +kernel
theorem dX5_undo_50 : decode cX5_undo 50 = .ok (.iinc 1 1, 3) := by decide +kernel
theorem dX5_undo_53 : decode cX5_undo 53 = .ok (.goto (-31), 3) := by decide +kernel
theorem dX5_undo_56 : decode cX5_undo 56 = .ok (.aload_n 0, 1) := by decide +kernel
theorem dX5_undo_57 : decode cX5_undo 57 = .ok (.getfield 28, 3) := by decide +kernel
theorem dX5_undo_60 : decode cX5_undo 60 = .ok (.ireturn, 1) := by decide +kernel
set_option maxRecDepth 20000 in
theorem ggX5_save_X5_in : GoodIn wsX5_save wsX5_in := goodIn_r _ [7] (by decide +kernel) (by decide +kernel)
set_option maxRecDepth 20000 in
theorem gX5_save_X5_in : GoodIn wsX5_save (va_wsS RX5 36 yX5_in wsX5_in) := goodIn_app (goodIn_of _ (by decide +kernel)) ggX5_save_X5_in
theorem dX5_save_0 : decode cX5_save 0 = .ok (.iload_n 1, 1) := by decide +kernel
theorem dX5_save_1 : decode cX5_save 1 = .ok (.i2l, 1) := by decide +kernel
theorem dX5_save_2 : decode cX5_save 2 = .ok (.lconst 0, 1) := by decide +kernel
theorem dX5_save_3 : decode cX5_save 3 = .ok (.lconst 1, 1) := by decide +kernel
theorem dX5_save_4 : decode cX5_save 4 = .ok (.invokestatic 36, 3) := by decide +kernel
theorem dX5_save_7 : decode cX5_save 7 = .ok (.ifCond .ne 6, 3) := by decide +kernel
theorem dX5_save_10 : decode cX5_save 10 = .ok (.bipush (-2), 2) := by decide +kernel
theorem dX5_save_12 : decode cX5_save 12 = .ok (.ireturn, 1) := by decide +kernel
theorem dX5_save_13 : decode cX5_save 13 = .ok (.iconst 0, 1) := by decide +kernel
theorem dX5_save_14 : decode cX5_save 14 = .ok (.istore_n 2, 1) := by decide +kernel
theorem dX5_save_15 : decode cX5_save 15 = .ok (.iload_n 2, 1) := by decide +kernel
theorem dX5_save_16 : decode cX5_save 16 = .ok (.sipush 160, 3) := by decide +kernel
theorem dX5_save_19 : decode cX5_save 19 = .ok (.if_icmp .ge 27, 3) := by decide +kernel
theorem dX5_save_22 : decode cX5_save 22 = .ok (.aload_n 0, 1) := by decide +kernel
theorem dX5_save_23 : decode cX5_save 23 = .ok (.getfield 19, 3) := by decide +kernel
theorem dX5_save_26 : decode cX5_save 26 = .ok (.sipush 160, 3) := by decide +kernel
theorem dX5_save_29 : decode cX5_save 29 = .ok (.iload_n 1, 1) := by decide +kernel
theorem dX5_save_30 : decode cX5_save 30 = .ok (.imul, 1) := by decide +kernel
theorem dX5_save_31 : decode cX5_save 31 = .ok (.iload_n 2, 1) := by decide +kernel
theorem dX5_save_32 : decode cX5_save 32 = .ok (.iadd, 1) := by decide +kernel
theorem dX5_save_33 : decode cX5_save 33 = .ok (.aload_n 0, 1) := by decide +kernel
theorem dX5_save_34 : decode cX5_save 34 = .ok (.getfield 7, 3) := by decide +kernel
theorem dX5_save_37 : decode cX5_save 37 = .ok (.iload_n 2, 1) := by decide +kernel
theorem dX5_save_38 : decode cX5_save 38 = .ok (.iaload, 1) := by decide +kernel
theorem dX5_save_39 : decode cX5_save 39 = .ok (.iastore, 1) := by decide +kernel
theorem dX5_save_40 : decode cX5_save 40 = .ok (.iinc 2 1, 3) := by decide +kernel
theorem dX5_save_43 : decode cX5_save 43 = .ok (.goto (-28), 3) := by decide +kernel
theorem dX5_save_46 : decode cX5_save 46 = .ok (.aload_n 0, 1) := by decide +kernel
theorem dX5_save_47 : decode cX5_save 47 = .ok (.getfield 22, 3) := by decide +kernel
theorem dX5_save_50 : decode cX5_save 50 = .ok (.iload_n 1, 1) := by decide +kernel
theorem dX5_save_51 : decode cX5_save 51 = .ok (.iconst 1, 1) := by decide +kernel
theorem dX5_save_52 : decode cX5_save 52 = .ok (.iastore, 1) := by decide +kernel
theorem dX5_save_53 : decode cX5_save 53 = .ok (.aload_n 0, 1) := by decide +kernel
theorem dX5_save_54 : decode cX5_save 54 = .ok (.getfield 7, 3) := by decide +kernel
theorem dX5_save_57 : decode cX5_save 57 = .ok (.bipush 8, 2) := by decide +kernel
theorem dX5_save_59 : decode cX5_save 59 = .ok (.iaload, 1) := by decide +kernel
theorem dX5_save_60 : decode cX5_save 60 = .ok (.ireturn, 1) := by decide +kernel
set_option maxRecDepth 20000 in
theorem ggX5_restore_X5_in : GoodIn wsX5_restore wsX5_in := goodIn_r _ [7] (by decide +kernel) (by decide +kernel)
set_option maxRecDepth 20000 in
theorem gX5_restore_X5_in : GoodIn wsX5_restore (va_wsS RX5 36 yX5_in wsX5_in) := goodIn_app (goodIn_of _ (by decide +kernel)) ggX5_restore_X5_in
set_option maxRecDepth 20000 in
theorem ggX5_restore_X5_keep : GoodIn wsX5_restore wsX5_keep := goodIn_r _ [11, 12, 2, 19, 20, 21, 22, 23, 24, 25, 26, 27, 28, 29, 30] (by decide +kernel) (by decide +kernel)
set_option maxRecDepth 20000 in
theorem gX5_restore_X5_keep : GoodIn wsX5_restore (wsV RX5 112 RX5 yX5_keep wsX5_keep) := goodIn_app (goodIn_of _ (by decide +kernel)) ggX5_restore_X5_keep
set_option maxRecDepth 20000 in
theorem ggX5_restore_X5_changed : GoodIn wsX5_restore wsX5_changed := goodIn_r _ [16, 17, 18, 12, 19, 20, 21, 22, 23, 24, 25, 26, 27, 28, 29, 30] (by decide +kernel) (by decide +kernel)
set_option maxRecDepth 20000 in
theorem gX5_restore_X5_changed : GoodIn wsX5_restore (wsV RX5 118 RX5 yX5_changed wsX5_changed) := goodIn_app (goodIn_of _ (by decide +kernel)) ggX5_restore_X5_changed
theorem dX5_restore_0 : decode cX5_restore 0 = .ok (.iload_n 1, 1) := by decide +kernel
theorem dX5_restore_1 : decode cX5_restore 1 = .ok (.i2l, 1) := by decide +kernel
theorem dX5_restore_2 : decode cX5_restore 2 = .ok (.lconst 0, 1) := by decide +kernel
theorem dX5_restore_3 : decode cX5_restore 3 = .ok (.lconst 1, 1) := by decide +kernel
theorem dX5_restore_4 : decode cX5_restore 4 = .ok (.invokestatic 36, 3) := by decide +kernel
theorem dX5_restore_7 : decode cX5_restore 7 = .ok (.ifCond .ne 6, 3) := by decide +kernel
theorem dX5_restore_10 : decode cX5_restore 10 = .ok (.bipush (-2), 2) := by decide +kernel
theorem dX5_restore_12 : decode cX5_restore 12 = .ok (.ireturn, 1) := by decide +kernel
theorem dX5_restore_13 : decode cX5_restore 13 = .ok (.aload_n 0, 1) := by decide +kernel
theorem dX5_restore_14 : decode cX5_restore 14 = .ok (.getfield 22, 3) := by decide +kernel
theorem dX5_restore_17 : decode cX5_restore 17 = .ok (.iload_n 1, 1) := by decide +kernel
theorem dX5_restore_18 : decode cX5_restore 18 = .ok (.iaload, 1) := by decide +kernel
theorem dX5_restore_19 : decode cX5_restore 19 = .ok (.ifCond .ne 6, 3) := by decide +kernel
theorem dX5_restore_22 : decode cX5_restore 22 = .ok (.bipush (-5), 2) := by decide +kernel
theorem dX5_restore_24 : decode cX5_restore 24 = .ok (.ireturn, 1) := by decide +kernel
theorem dX5_restore_25 : decode cX5_restore 25 = .ok (.aload_n 0, 1) := by decide +kernel
theorem dX5_restore_26 : decode cX5_restore 26 = .ok (.invokevirtual 112, 3) := by decide +kernel
theorem dX5_restore_29 : decode cX5_restore 29 = .ok (.iconst 0, 1) := by decide +kernel
theorem dX5_restore_30 : decode cX5_restore 30 = .ok (.istore_n 2, 1) := by decide +kernel
theorem dX5_restore_31 : decode cX5_restore 31 = .ok (.iload_n 2, 1) := by decide +kernel
theorem dX5_restore_32 : decode cX5_restore 32 = .ok (.sipush 160, 3) := by decide +kernel
theorem dX5_restore_35 : decode cX5_restore 35 = .ok (.if_icmp .ge 27, 3) := by decide +kernel
theorem dX5_restore_38 : decode cX5_restore 38 = .ok (.aload_n 0, 1) := by decide +kernel
theorem dX5_restore_39 : decode cX5_restore 39 = .ok (.getfield 7, 3) := by decide +kernel
theorem dX5_restore_42 : decode cX5_restore 42 = .ok (.iload_n 2, 1) := by decide +kernel
theorem dX5_restore_43 : decode cX5_restore 43 = .ok (.aload_n 0, 1) := by decide +kernel
theorem dX5_restore_44 : decode cX5_restore 44 = .ok (.getfield 19, 3) := by decide +kernel
theorem dX5_restore_47 : decode cX5_restore 47 = .ok (.sipush 160, 3) := by decide +kernel
theorem dX5_restore_50 : decode cX5_restore 50 = .ok (.iload_n 1, 1) := by decide +kernel
theorem dX5_restore_51 : decode cX5_restore 51 = .ok (.imul, 1) := by decide +kernel
theorem dX5_restore_52 : decode cX5_restore 52 = .ok (.iload_n 2, 1) := by decide +kernel
theorem dX5_restore_53 : decode cX5_restore 53 = .ok (.iadd, 1) := by decide +kernel
theorem dX5_restore_54 : decode cX5_restore 54 = .ok (.iaload, 1) := by decide +kernel
theorem dX5_restore_55 : decode cX5_restore 55 = .ok (.iastore, 1) := by decide +kernel
theorem dX5_restore_56 : decode cX5_restore 56 = .ok (.iinc 2 1, 3) := by decide +kernel
theorem dX5_restore_59 : decode cX5_restore 59 = .ok (.goto (-28), 3) := by decide +kernel
theorem dX5_restore_62 : decode cX5_restore 62 = .ok (.aload_n 0, 1) := by decide +kernel
theorem dX5_restore_63 : decode cX5_restore 63 = .ok (.aload_n 0, 1) := by decide +kernel
theorem dX5_restore_64 : decode cX5_restore 64 = .ok (.getfield 7, 3) := by decide +kernel
theorem dX5_restore_67 : decode cX5_restore 67 = .ok (.bipush 8, 2) := by decide +kernel
theorem dX5_restore_69 : decode cX5_restore 69 = .ok (.iaload, 1) := by decide +kernel
theorem dX5_restore_70 : decode cX5_restore 70 = .ok (.invokevirtual 118, 3) := by decide +kernel
theorem dX5_restore_73 : decode cX5_restore 73 = .ok (.ireturn, 1) := by decide +kernel
