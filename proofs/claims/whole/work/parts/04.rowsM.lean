theorem dX5_init_0 : decode cX5_init 0 = .ok (.aload_n 0, 1) := by decide +kernel
theorem dX5_init_1 : decode cX5_init 1 = .ok (.invokespecial 1, 3) := by decide +kernel
theorem dX5_init_4 : decode cX5_init 4 = .ok (.aload_n 0, 1) := by decide +kernel
theorem dX5_init_5 : decode cX5_init 5 = .ok (.sipush 227, 3) := by decide +kernel
theorem dX5_init_8 : decode cX5_init 8 = .ok (.newarray .int, 2) := by decide +kernel
theorem dX5_init_10 : decode cX5_init 10 = .ok (.putfield 7, 3) := by decide +kernel
theorem dX5_init_13 : decode cX5_init 13 = .ok (.aload_n 0, 1) := by decide +kernel
theorem dX5_init_14 : decode cX5_init 14 = .ok (.sipush 227, 3) := by decide +kernel
theorem dX5_init_17 : decode cX5_init 17 = .ok (.newarray .int, 2) := by decide +kernel
theorem dX5_init_19 : decode cX5_init 19 = .ok (.putfield 13, 3) := by decide +kernel
theorem dX5_init_22 : decode cX5_init 22 = .ok (.aload_n 0, 1) := by decide +kernel
theorem dX5_init_23 : decode cX5_init 23 = .ok (.sipush 227, 3) := by decide +kernel
theorem dX5_init_26 : decode cX5_init 26 = .ok (.newarray .int, 2) := by decide +kernel
theorem dX5_init_28 : decode cX5_init 28 = .ok (.putfield 16, 3) := by decide +kernel
theorem dX5_init_31 : decode cX5_init 31 = .ok (.aload_n 0, 1) := by decide +kernel
theorem dX5_init_32 : decode cX5_init 32 = .ok (.sipush 908, 3) := by decide +kernel
theorem dX5_init_35 : decode cX5_init 35 = .ok (.newarray .int, 2) := by decide +kernel
theorem dX5_init_37 : decode cX5_init 37 = .ok (.putfield 19, 3) := by decide +kernel
theorem dX5_init_40 : decode cX5_init 40 = .ok (.aload_n 0, 1) := by decide +kernel
theorem dX5_init_41 : decode cX5_init 41 = .ok (.sipush 227, 3) := by decide +kernel
theorem dX5_init_44 : decode cX5_init 44 = .ok (.newarray .int, 2) := by decide +kernel
theorem dX5_init_46 : decode cX5_init 46 = .ok (.putfield 22, 3) := by decide +kernel
theorem dX5_init_49 : decode cX5_init 49 = .ok (.aload_n 0, 1) := by decide +kernel
theorem dX5_init_50 : decode cX5_init 50 = .ok (.bipush 22, 2) := by decide +kernel
theorem dX5_init_52 : decode cX5_init 52 = .ok (.newarray .int, 2) := by decide +kernel
theorem dX5_init_54 : decode cX5_init 54 = .ok (.putfield 25, 3) := by decide +kernel
theorem dX5_init_57 : decode cX5_init 57 = .ok (.aload_n 0, 1) := by decide +kernel
theorem dX5_init_58 : decode cX5_init 58 = .ok (.bipush 10, 2) := by decide +kernel
theorem dX5_init_60 : decode cX5_init 60 = .ok (.newarray .int, 2) := by decide +kernel
theorem dX5_init_62 : decode cX5_init 62 = .ok (.putfield 28, 3) := by decide +kernel
theorem dX5_init_65 : decode cX5_init 65 = .ok (.aload_n 0, 1) := by decide +kernel
theorem dX5_init_66 : decode cX5_init 66 = .ok (.sipush 850, 3) := by decide +kernel
theorem dX5_init_69 : decode cX5_init 69 = .ok (.newarray .int, 2) := by decide +kernel
theorem dX5_init_71 : decode cX5_init 71 = .ok (.putfield 31, 3) := by decide +kernel
theorem dX5_init_74 : decode cX5_init 74 = .ok (.aload_n 0, 1) := by decide +kernel
theorem dX5_init_75 : decode cX5_init 75 = .ok (.bipush 10, 2) := by decide +kernel
theorem dX5_init_77 : decode cX5_init 77 = .ok (.newarray .int, 2) := by decide +kernel
theorem dX5_init_79 : decode cX5_init 79 = .ok (.putfield 34, 3) := by decide +kernel
theorem dX5_init_82 : decode cX5_init 82 = .ok (.aload_n 0, 1) := by decide +kernel
theorem dX5_init_83 : decode cX5_init 83 = .ok (.iconst 4, 1) := by decide +kernel
theorem dX5_init_84 : decode cX5_init 84 = .ok (.newarray .int, 2) := by decide +kernel
theorem dX5_init_86 : decode cX5_init 86 = .ok (.putfield 37, 3) := by decide +kernel
theorem dX5_init_89 : decode cX5_init 89 = .ok (.aload_n 0, 1) := by decide +kernel
theorem dX5_init_90 : decode cX5_init 90 = .ok (.bipush 100, 2) := by decide +kernel
theorem dX5_init_92 : decode cX5_init 92 = .ok (.newarray .int, 2) := by decide +kernel
theorem dX5_init_94 : decode cX5_init 94 = .ok (.putfield 40, 3) := by decide +kernel
theorem dX5_init_97 : decode cX5_init 97 = .ok (.aload_n 0, 1) := by decide +kernel
theorem dX5_init_98 : decode cX5_init 98 = .ok (.bipush 60, 2) := by decide +kernel
theorem dX5_init_100 : decode cX5_init 100 = .ok (.newarray .int, 2) := by decide +kernel
theorem dX5_init_102 : decode cX5_init 102 = .ok (.putfield 43, 3) := by decide +kernel
theorem dX5_init_105 : decode cX5_init 105 = .ok (.aload_n 0, 1) := by decide +kernel
theorem dX5_init_106 : decode cX5_init 106 = .ok (.bipush 22, 2) := by decide +kernel
theorem dX5_init_108 : decode cX5_init 108 = .ok (.newarray .int, 2) := by decide +kernel
theorem dX5_init_110 : decode cX5_init 110 = .ok (.putfield 46, 3) := by decide +kernel
theorem dX5_init_113 : decode cX5_init 113 = .ok (.iconst 0, 1) := by decide +kernel
theorem dX5_init_114 : decode cX5_init 114 = .ok (.istore_n 1, 1) := by decide +kernel
theorem dX5_init_115 : decode cX5_init 115 = .ok (.iload_n 1, 1) := by decide +kernel
theorem dX5_init_116 : decode cX5_init 116 = .ok (.iconst 5, 1) := by decide +kernel
theorem dX5_init_117 : decode cX5_init 117 = .ok (.if_icmp .ge 18, 3) := by decide +kernel
theorem dX5_init_120 : decode cX5_init 120 = .ok (.aload_n 0, 1) := by decide +kernel
theorem dX5_init_121 : decode cX5_init 121 = .ok (.getfield 7, 3) := by decide +kernel
theorem dX5_init_124 : decode cX5_init 124 = .ok (.iconst 2, 1) := by decide +kernel
theorem dX5_init_125 : decode cX5_init 125 = .ok (.iload_n 1, 1) := by decide +kernel
theorem dX5_init_126 : decode cX5_init 126 = .ok (.iadd, 1) := by decide +kernel
theorem dX5_init_127 : decode cX5_init 127 = .ok (.iload_n 1, 1) := by decide +kernel
theorem dX5_init_128 : decode cX5_init 128 = .ok (.iastore, 1) := by decide +kernel
theorem dX5_init_129 : decode cX5_init 129 = .ok (.iinc 1 1, 3) := by decide +kernel
theorem dX5_init_132 : decode cX5_init 132 = .ok (.goto (-17), 3) := by decide +kernel
theorem dX5_init_135 : decode cX5_init 135 = .ok (.return_, 1) := by decide +kernel
theorem dX5_in_0 : decode cX5_in 0 = .ok (.lload_n 0, 1) := by decide +kernel
theorem dX5_in_1 : decode cX5_in 1 = .ok (.lload_n 2, 1) := by decide +kernel
theorem dX5_in_2 : decode cX5_in 2 = .ok (.lcmp, 1) := by decide +kernel
theorem dX5_in_3 : decode cX5_in 3 = .ok (.ifCond .lt 14, 3) := by decide +kernel
theorem dX5_in_6 : decode cX5_in 6 = .ok (.lload_n 0, 1) := by decide +kernel
theorem dX5_in_7 : decode cX5_in 7 = .ok (.lload 4, 2) := by decide +kernel
theorem dX5_in_9 : decode cX5_in 9 = .ok (.lcmp, 1) := by decide +kernel
theorem dX5_in_10 : decode cX5_in 10 = .ok (.ifCond .gt 7, 3) := by decide +kernel
theorem dX5_in_13 : decode cX5_in 13 = .ok (.iconst 1, 1) := by decide +kernel
theorem dX5_in_14 : decode cX5_in 14 = .ok (.goto 4, 3) := by decide +kernel
theorem dX5_in_17 : decode cX5_in 17 = .ok (.iconst 0, 1) := by decide +kernel
theorem dX5_in_18 : decode cX5_in 18 = .ok (.ireturn, 1) := by decide +kernel
theorem dX5_copy_0 : decode cX5_copy 0 = .ok (.iconst 0, 1) := by decide +kernel
theorem dX5_copy_1 : decode cX5_copy 1 = .ok (.istore_n 2, 1) := by decide +kernel
theorem dX5_copy_2 : decode cX5_copy 2 = .ok (.iload_n 2, 1) := by decide +kernel
theorem dX5_copy_3 : decode cX5_copy 3 = .ok (.sipush 227, 3) := by decide +kernel
theorem dX5_copy_6 : decode cX5_copy 6 = .ok (.if_icmp .ge 15, 3) := by decide +kernel
theorem dX5_copy_9 : decode cX5_copy 9 = .ok (.aload_n 1, 1) := by decide +kernel
theorem dX5_copy_10 : decode cX5_copy 10 = .ok (.iload_n 2, 1) := by decide +kernel
theorem dX5_copy_11 : decode cX5_copy 11 = .ok (.aload_n 0, 1) := by decide +kernel
theorem dX5_copy_12 : decode cX5_copy 12 = .ok (.iload_n 2, 1) := by decide +kernel
theorem dX5_copy_13 : decode cX5_copy 13 = .ok (.iaload, 1) := by decide +kernel
theorem dX5_copy_14 : decode cX5_copy 14 = .ok (.iastore, 1) := by decide +kernel
theorem dX5_copy_15 : decode cX5_copy 15 = .ok (.iinc 2 1, 3) := by decide +kernel
theorem dX5_copy_18 : decode cX5_copy 18 = .ok (.goto (-16), 3) := by decide +kernel
theorem dX5_copy_21 : decode cX5_copy 21 = .ok (.return_, 1) := by decide +kernel
set_option maxRecDepth 20000 in
theorem ggX5_remember_X5_copy : GoodIn wsX5_remember wsX5_copy := goodIn_r _ [6] (by decide +kernel) (by decide +kernel)
set_option maxRecDepth 20000 in
theorem gX5_remember_X5_copy : GoodIn wsX5_remember (va_wsS RX5 49 yX5_copy wsX5_copy) := goodIn_app (goodIn_of _ (by decide +kernel)) ggX5_remember_X5_copy
theorem dX5_remember_0 : decode cX5_remember 0 = .ok (.aload_n 0, 1) := by decide +kernel
theorem dX5_remember_1 : decode cX5_remember 1 = .ok (.getfield 7, 3) := by decide +kernel
theorem dX5_remember_4 : decode cX5_remember 4 = .ok (.aload_n 0, 1) := by decide +kernel
theorem dX5_remember_5 : decode cX5_remember 5 = .ok (.getfield 13, 3) := by decide +kernel
theorem dX5_remember_8 : decode cX5_remember 8 = .ok (.invokestatic 49, 3) := by decide +kernel
theorem dX5_remember_11 : decode cX5_remember 11 = .ok (.return_, 1) := by decide +kernel
theorem dX5_acted_0 : decode cX5_acted 0 = .ok (.aload_n 0, 1) := by decide +kernel
theorem dX5_acted_1 : decode cX5_acted 1 = .ok (.getfield 53, 3) := by decide +kernel
theorem dX5_acted_4 : decode cX5_acted 4 = .ok (.iconst 4, 1) := by decide +kernel
theorem dX5_acted_5 : decode cX5_acted 5 = .ok (.if_icmp .ne 44, 3) := by decide +kernel
theorem dX5_acted_8 : decode cX5_acted 8 = .ok (.iconst 0, 1) := by decide +kernel
theorem dX5_acted_9 : decode cX5_acted 9 = .ok (.istore_n 2, 1) := by decide +kernel
theorem dX5_acted_10 : decode cX5_acted 10 = .ok (.iload_n 2, 1) := by decide +kernel
theorem dX5_acted_11 : decode cX5_acted 11 = .ok (.sipush 681, 3) := by decide +kernel
theorem dX5_acted_14 : decode cX5_acted 14 = .ok (.if_icmp .ge 25, 3) := by decide +kernel
theorem dX5_acted_17 : decode cX5_acted 17 = .ok (.aload_n 0, 1) := by decide +kernel
theorem dX5_acted_18 : decode cX5_acted 18 = .ok (.getfield 19, 3) := by decide +kernel
theorem dX5_acted_21 : decode cX5_acted 21 = .ok (.iload_n 2, 1) := by decide +kernel
theorem dX5_acted_22 : decode cX5_acted 22 = .ok (.aload_n 0, 1) := by decide +kernel
theorem dX5_acted_23 : decode cX5_acted 23 = .ok (.getfield 19, 3) := by decide +kernel
theorem dX5_acted_26 : decode cX5_acted 26 = .ok (.iload_n 2, 1) := by decide +kernel
theorem dX5_acted_27 : decode cX5_acted 27 = .ok (.sipush 227, 3) := by decide +kernel
theorem dX5_acted_30 : decode cX5_acted 30 = .ok (.iadd, 1) := by decide +kernel
theorem dX5_acted_31 : decode cX5_acted 31 = .ok (.iaload, 1) := by decide +kernel
theorem dX5_acted_32 : decode cX5_acted 32 = .ok (.iastore, 1) := by decide +kernel
theorem dX5_acted_33 : decode cX5_acted 33 = .ok (.iinc 2 1, 3) := by decide +kernel
theorem dX5_acted_36 : decode cX5_acted 36 = .ok (.goto (-26), 3) := by decide +kernel
theorem dX5_acted_39 : decode cX5_acted 39 = .ok (.aload_n 0, 1) := by decide +kernel
theorem dX5_acted_40 : decode cX5_acted 40 = .ok (.dup, 1) := by decide +kernel
theorem dX5_acted_41 : decode cX5_acted 41 = .ok (.getfield 53, 3) := by decide +kernel
theorem dX5_acted_44 : decode cX5_acted 44 = .ok (.iconst 1, 1) := by decide +kernel
theorem dX5_acted_45 : decode cX5_acted 45 = .ok (.isub, 1) := by decide +kernel
theorem dX5_acted_46 : decode cX5_acted 46 = .ok (.putfield 53, 3) := by decide +kernel
theorem dX5_acted_49 : decode cX5_acted 49 = .ok (.iconst 0, 1) := by decide +kernel
theorem dX5_acted_50 : decode cX5_acted 50 = .ok (.istore_n 2, 1) := by decide +kernel
theorem dX5_acted_51 : decode cX5_acted 51 = .ok (.iload_n 2, 1) := by decide +kernel
theorem dX5_acted_52 : decode cX5_acted 52 = .ok (.sipush 227, 3) := by decide +kernel
theorem dX5_acted_55 : decode cX5_acted 55 = .ok (.if_icmp .ge 30, 3) := by decide +kernel
theorem dX5_acted_58 : decode cX5_acted 58 = .ok (.aload_n 0, 1) := by decide +kernel
theorem dX5_acted_59 : decode cX5_acted 59 = .ok (.getfield 19, 3) := by decide +kernel
theorem dX5_acted_62 : decode cX5_acted 62 = .ok (.sipush 227, 3) := by decide +kernel
theorem dX5_acted_65 : decode cX5_acted 65 = .ok (.aload_n 0, 1) := by decide +kernel
theorem dX5_acted_66 : decode cX5_acted 66 = .ok (.getfield 53, 3) := by decide +kernel
theorem dX5_acted_69 : decode cX5_acted 69 = .ok (.imul, 1) := by decide +kernel
theorem dX5_acted_70 : decode cX5_acted 70 = .ok (.iload_n 2, 1) := by decide +kernel
theorem dX5_acted_71 : decode cX5_acted 71 = .ok (.iadd, 1) := by decide +kernel
theorem dX5_acted_72 : decode cX5_acted 72 = .ok (.aload_n 0, 1) := by decide +kernel
theorem dX5_acted_73 : decode cX5_acted 73 = .ok (.getfield 13, 3) := by decide +kernel
theorem dX5_acted_76 : decode cX5_acted 76 = .ok (.iload_n 2, 1) := by decide +kernel
theorem dX5_acted_77 : decode cX5_acted 77 = .ok (.iaload, 1) := by decide +kernel
theorem dX5_acted_78 : decode cX5_acted 78 = .ok (.iastore, 1) := by decide +kernel
theorem dX5_acted_79 : decode cX5_acted 79 = .ok (.iinc 2 1, 3) := by decide +kernel
theorem dX5_acted_82 : decode cX5_acted 82 = .ok (.goto (-31), 3) := by decide +kernel
theorem dX5_acted_85 : decode cX5_acted 85 = .ok (.aload_n 0, 1) := by decide +kernel
theorem dX5_acted_86 : decode cX5_acted 86 = .ok (.dup, 1) := by decide +kernel
theorem dX5_acted_87 : decode cX5_acted 87 = .ok (.getfield 53, 3) := by decide +kernel
theorem dX5_acted_90 : decode cX5_acted 90 = .ok (.iconst 1, 1) := by decide +kernel
theorem dX5_acted_91 : decode cX5_acted 91 = .ok (.iadd, 1) := by decide +kernel
theorem dX5_acted_92 : decode cX5_acted 92 = .ok (.putfield 53, 3) := by decide +kernel
theorem dX5_acted_95 : decode cX5_acted 95 = .ok (.iload_n 1, 1) := by decide +kernel
theorem dX5_acted_96 : decode cX5_acted 96 = .ok (.ireturn, 1) := by decide +kernel
set_option maxRecDepth 20000 in
theorem ggX5_isScene_X5_in : GoodIn wsX5_isScene wsX5_in := goodIn_r _ [5] (by decide +kernel) (by decide +kernel)
set_option maxRecDepth 20000 in
theorem gX5_isScene_X5_in : GoodIn wsX5_isScene (va_wsS RX5 59 yX5_in wsX5_in) := goodIn_app (goodIn_of _ (by decide +kernel)) ggX5_isScene_X5_in
theorem dX5_isScene_0 : decode cX5_isScene 0 = .ok (.iload_n 0, 1) := by decide +kernel
theorem dX5_isScene_1 : decode cX5_isScene 1 = .ok (.i2l, 1) := by decide +kernel
theorem dX5_isScene_2 : decode cX5_isScene 2 = .ok (.lconst 0, 1) := by decide +kernel
theorem dX5_isScene_3 : decode cX5_isScene 3 = .ok (.ldc2_w 57, 3) := by decide +kernel
theorem dX5_isScene_6 : decode cX5_isScene 6 = .ok (.invokestatic 59, 3) := by decide +kernel
theorem dX5_isScene_9 : decode cX5_isScene 9 = .ok (.ireturn, 1) := by decide +kernel
theorem dX5_of_0 : decode cX5_of 0 = .ok (.aload_n 0, 1) := by decide +kernel
theorem dX5_of_1 : decode cX5_of 1 = .ok (.getfield 7, 3) := by decide +kernel
theorem dX5_of_4 : decode cX5_of 4 = .ok (.bipush 7, 2) := by decide +kernel
theorem dX5_of_6 : decode cX5_of 6 = .ok (.bipush 22, 2) := by decide +kernel
theorem dX5_of_8 : decode cX5_of 8 = .ok (.iload_n 1, 1) := by decide +kernel
theorem dX5_of_9 : decode cX5_of 9 = .ok (.imul, 1) := by decide +kernel
theorem dX5_of_10 : decode cX5_of 10 = .ok (.iadd, 1) := by decide +kernel
theorem dX5_of_11 : decode cX5_of 11 = .ok (.iload_n 2, 1) := by decide +kernel
theorem dX5_of_12 : decode cX5_of 12 = .ok (.iadd, 1) := by decide +kernel
theorem dX5_of_13 : decode cX5_of 13 = .ok (.iaload, 1) := by decide +kernel
theorem dX5_of_14 : decode cX5_of 14 = .ok (.ireturn, 1) := by decide +kernel
set_option maxRecDepth 20000 in
theorem ggX5_eventOf_X5_of : GoodIn wsX5_eventOf wsX5_of := goodIn_r _ [5, 6, 7, 8, 9, 10, 11, 12, 13, 14, 15, 16, 17, 18, 19, 20, 21, 22, 23, 24] (by decide +kernel) (by decide +kernel)
set_option maxRecDepth 20000 in
theorem gX5_eventOf_X5_of : GoodIn wsX5_eventOf (wsV RX5 63 RX5 yX5_of wsX5_of) := goodIn_app (goodIn_of _ (by decide +kernel)) ggX5_eventOf_X5_of
theorem dX5_eventOf_0 : decode cX5_eventOf 0 = .ok (.aload_n 0, 1) := by decide +kernel
theorem dX5_eventOf_1 : decode cX5_eventOf 1 = .ok (.iload_n 1, 1) := by decide +kernel
theorem dX5_eventOf_2 : decode cX5_eventOf 2 = .ok (.iconst 4, 1) := by decide +kernel
theorem dX5_eventOf_3 : decode cX5_eventOf 3 = .ok (.iconst 3, 1) := by decide +kernel
theorem dX5_eventOf_4 : decode cX5_eventOf 4 = .ok (.iload_n 2, 1) := by decide +kernel
theorem dX5_eventOf_5 : decode cX5_eventOf 5 = .ok (.imul, 1) := by decide +kernel
theorem dX5_eventOf_6 : decode cX5_eventOf 6 = .ok (.iadd, 1) := by decide +kernel
theorem dX5_eventOf_7 : decode cX5_eventOf 7 = .ok (.iload_n 3, 1) := by decide +kernel
theorem dX5_eventOf_8 : decode cX5_eventOf 8 = .ok (.iadd, 1) := by decide +kernel
theorem dX5_eventOf_9 : decode cX5_eventOf 9 = .ok (.invokevirtual 63, 3) := by decide +kernel
theorem dX5_eventOf_12 : decode cX5_eventOf 12 = .ok (.ireturn, 1) := by decide +kernel
set_option maxRecDepth 20000 in
theorem ggX5_lieOf_X5_of : GoodIn wsX5_lieOf wsX5_of := goodIn_r _ [6, 1, 7, 8, 9, 10, 11, 12, 13, 14, 15, 16, 17, 18, 19, 20, 21, 22, 23, 24] (by decide +kernel) (by decide +kernel)
set_option maxRecDepth 20000 in
theorem gX5_lieOf_X5_of : GoodIn wsX5_lieOf (wsV RX5 63 RX5 yX5_of wsX5_of) := goodIn_app (goodIn_of _ (by decide +kernel)) ggX5_lieOf_X5_of
theorem dX5_lieOf_0 : decode cX5_lieOf 0 = .ok (.iconst 0, 1) := by decide +kernel
theorem dX5_lieOf_1 : decode cX5_lieOf 1 = .ok (.istore_n 2, 1) := by decide +kernel
theorem dX5_lieOf_2 : decode cX5_lieOf 2 = .ok (.iload_n 2, 1) := by decide +kernel
theorem dX5_lieOf_3 : decode cX5_lieOf 3 = .ok (.aload_n 0, 1) := by decide +kernel
theorem dX5_lieOf_4 : decode cX5_lieOf 4 = .ok (.getfield 7, 3) := by decide +kernel
theorem dX5_lieOf_7 : decode cX5_lieOf 7 = .ok (.iconst 1, 1) := by decide +kernel
theorem dX5_lieOf_8 : decode cX5_lieOf 8 = .ok (.iaload, 1) := by decide +kernel
theorem dX5_lieOf_9 : decode cX5_lieOf 9 = .ok (.if_icmp .ge 21, 3) := by decide +kernel
theorem dX5_lieOf_12 : decode cX5_lieOf 12 = .ok (.aload_n 0, 1) := by decide +kernel
theorem dX5_lieOf_13 : decode cX5_lieOf 13 = .ok (.iload_n 2, 1) := by decide +kernel
theorem dX5_lieOf_14 : decode cX5_lieOf 14 = .ok (.iconst 0, 1) := by decide +kernel
theorem dX5_lieOf_15 : decode cX5_lieOf 15 = .ok (.invokevirtual 63, 3) := by decide +kernel
theorem dX5_lieOf_18 : decode cX5_lieOf 18 = .ok (.iload_n 1, 1) := by decide +kernel
theorem dX5_lieOf_19 : decode cX5_lieOf 19 = .ok (.if_icmp .ne 5, 3) := by decide +kernel
theorem dX5_lieOf_22 : decode cX5_lieOf 22 = .ok (.iload_n 2, 1) := by decide +kernel
theorem dX5_lieOf_23 : decode cX5_lieOf 23 = .ok (.ireturn, 1) := by decide +kernel
theorem dX5_lieOf_24 : decode cX5_lieOf 24 = .ok (.iinc 2 1, 3) := by decide +kernel
theorem dX5_lieOf_27 : decode cX5_lieOf 27 = .ok (.goto (-25), 3) := by decide +kernel
theorem dX5_lieOf_30 : decode cX5_lieOf 30 = .ok (.bipush (-5), 2) := by decide +kernel
theorem dX5_lieOf_32 : decode cX5_lieOf 32 = .ok (.ireturn, 1) := by decide +kernel
set_option maxRecDepth 20000 in
theorem ggX5_panelsOf_X5_of : GoodIn wsX5_panelsOf wsX5_of := goodIn_r _ [6, 1, 7, 8, 9, 10, 11, 12, 13, 14, 15, 16, 17, 18, 19, 20, 21, 22, 23, 24] (by decide +kernel) (by decide +kernel)
set_option maxRecDepth 20000 in
theorem gX5_panelsOf_X5_of : GoodIn wsX5_panelsOf (wsV RX5 63 RX5 yX5_of wsX5_of) := goodIn_app (goodIn_of _ (by decide +kernel)) ggX5_panelsOf_X5_of
theorem dX5_panelsOf_0 : decode cX5_panelsOf 0 = .ok (.iconst 0, 1) := by decide +kernel
theorem dX5_panelsOf_1 : decode cX5_panelsOf 1 = .ok (.istore_n 2, 1) := by decide +kernel
theorem dX5_panelsOf_2 : decode cX5_panelsOf 2 = .ok (.iconst 0, 1) := by decide +kernel
theorem dX5_panelsOf_3 : decode cX5_panelsOf 3 = .ok (.istore_n 3, 1) := by decide +kernel
theorem dX5_panelsOf_4 : decode cX5_panelsOf 4 = .ok (.iload_n 3, 1) := by decide +kernel
theorem dX5_panelsOf_5 : decode cX5_panelsOf 5 = .ok (.aload_n 0, 1) := by decide +kernel
theorem dX5_panelsOf_6 : decode cX5_panelsOf 6 = .ok (.getfield 7, 3) := by decide +kernel
theorem dX5_panelsOf_9 : decode cX5_panelsOf 9 = .ok (.iconst 1, 1) := by decide +kernel
theorem dX5_panelsOf_10 : decode cX5_panelsOf 10 = .ok (.iaload, 1) := by decide +kernel
theorem dX5_panelsOf_11 : decode cX5_panelsOf 11 = .ok (.if_icmp .ge 27, 3) := by decide +kernel
theorem dX5_panelsOf_14 : decode cX5_panelsOf 14 = .ok (.iload_n 2, 1) := by decide +kernel
theorem dX5_panelsOf_15 : decode cX5_panelsOf 15 = .ok (.aload_n 0, 1) := by decide +kernel
theorem dX5_panelsOf_16 : decode cX5_panelsOf 16 = .ok (.iload_n 3, 1) := by decide +kernel
theorem dX5_panelsOf_17 : decode cX5_panelsOf 17 = .ok (.iconst 1, 1) := by decide +kernel
theorem dX5_panelsOf_18 : decode cX5_panelsOf 18 = .ok (.invokevirtual 63, 3) := by decide +kernel
theorem dX5_panelsOf_21 : decode cX5_panelsOf 21 = .ok (.iload_n 1, 1) := by decide +kernel
theorem dX5_panelsOf_22 : decode cX5_panelsOf 22 = .ok (.if_icmp .ne 7, 3) := by decide +kernel
theorem dX5_panelsOf_25 : decode cX5_panelsOf 25 = .ok (.iconst 1, 1) := by decide +kernel
theorem dX5_panelsOf_26 : decode cX5_panelsOf 26 = .ok (.goto 4, 3) := by decide +kernel
theorem dX5_panelsOf_29 : decode cX5_panelsOf 29 = .ok (.iconst 0, 1) := by decide +kernel
theorem dX5_panelsOf_30 : decode cX5_panelsOf 30 = .ok (.iadd, 1) := by decide +kernel
theorem dX5_panelsOf_31 : decode cX5_panelsOf 31 = .ok (.istore_n 2, 1) := by decide +kernel
theorem dX5_panelsOf_32 : decode cX5_panelsOf 32 = .ok (.iinc 3 1, 3) := by decide +kernel
theorem dX5_panelsOf_35 : decode cX5_panelsOf 35 = .ok (.goto (-31), 3) := by decide +kernel
theorem dX5_panelsOf_38 : decode cX5_panelsOf 38 = .ok (.iload_n 2, 1) := by decide +kernel
theorem dX5_panelsOf_39 : decode cX5_panelsOf 39 = .ok (.ireturn, 1) := by decide +kernel
set_option maxRecDepth 20000 in
theorem ggX5_placeOf_X5_of : GoodIn wsX5_placeOf wsX5_of := goodIn_r _ [5, 6, 7, 8, 9, 10, 11, 12, 13, 14, 15, 16, 17, 18, 19, 20, 21, 22, 23, 24] (by decide +kernel) (by decide +kernel)
set_option maxRecDepth 20000 in
theorem gX5_placeOf_X5_of : GoodIn wsX5_placeOf (wsV RX5 63 RX5 yX5_of wsX5_of) := goodIn_app (goodIn_of _ (by decide +kernel)) ggX5_placeOf_X5_of
theorem dX5_placeOf_0 : decode cX5_placeOf 0 = .ok (.iconst 0, 1) := by decide +kernel
theorem dX5_placeOf_1 : decode cX5_placeOf 1 = .ok (.istore_n 2, 1) := by decide +kernel
theorem dX5_placeOf_2 : decode cX5_placeOf 2 = .ok (.iconst 0, 1) := by decide +kernel
theorem dX5_placeOf_3 : decode cX5_placeOf 3 = .ok (.istore_n 3, 1) := by decide +kernel
theorem dX5_placeOf_4 : decode cX5_placeOf 4 = .ok (.iload_n 3, 1) := by decide +kernel
theorem dX5_placeOf_5 : decode cX5_placeOf 5 = .ok (.iload_n 1, 1) := by decide +kernel
theorem dX5_placeOf_6 : decode cX5_placeOf 6 = .ok (.if_icmp .ge 32, 3) := by decide +kernel
theorem dX5_placeOf_9 : decode cX5_placeOf 9 = .ok (.iload_n 2, 1) := by decide +kernel
theorem dX5_placeOf_10 : decode cX5_placeOf 10 = .ok (.aload_n 0, 1) := by decide +kernel
theorem dX5_placeOf_11 : decode cX5_placeOf 11 = .ok (.iload_n 3, 1) := by decide +kernel
theorem dX5_placeOf_12 : decode cX5_placeOf 12 = .ok (.iconst 1, 1) := by decide +kernel
theorem dX5_placeOf_13 : decode cX5_placeOf 13 = .ok (.invokevirtual 63, 3) := by decide +kernel
theorem dX5_placeOf_16 : decode cX5_placeOf 16 = .ok (.aload_n 0, 1) := by decide +kernel
theorem dX5_placeOf_17 : decode cX5_placeOf 17 = .ok (.iload_n 1, 1) := by decide +kernel
theorem dX5_placeOf_18 : decode cX5_placeOf 18 = .ok (.iconst 1, 1) := by decide +kernel
theorem dX5_placeOf_19 : decode cX5_placeOf 19 = .ok (.invokevirtual 63, 3) := by decide +kernel
theorem dX5_placeOf_22 : decode cX5_placeOf 22 = .ok (.if_icmp .ne 7, 3) := by decide +kernel
theorem dX5_placeOf_25 : decode cX5_placeOf 25 = .ok (.iconst 1, 1) := by decide +kernel
theorem dX5_placeOf_26 : decode cX5_placeOf 26 = .ok (.goto 4, 3) := by decide +kernel
theorem dX5_placeOf_29 : decode cX5_placeOf 29 = .ok (.iconst 0, 1) := by decide +kernel
theorem dX5_placeOf_30 : decode cX5_placeOf 30 = .ok (.iadd, 1) := by decide +kernel
theorem dX5_placeOf_31 : decode cX5_placeOf 31 = .ok (.istore_n 2, 1) := by decide +kernel
theorem dX5_placeOf_32 : decode cX5_placeOf 32 = .ok (.iinc 3 1, 3) := by decide +kernel
theorem dX5_placeOf_35 : decode cX5_placeOf 35 = .ok (.goto (-31), 3) := by decide +kernel
theorem dX5_placeOf_38 : decode cX5_placeOf 38 = .ok (.iload_n 2, 1) := by decide +kernel
theorem dX5_placeOf_39 : decode cX5_placeOf 39 = .ok (.ireturn, 1) := by decide +kernel
theorem dX5_placeOfScene_0 : decode cX5_placeOfScene 0 = .ok (.iconst 0, 1) := by decide +kernel
theorem dX5_placeOfScene_1 : decode cX5_placeOfScene 1 = .ok (.istore_n 2, 1) := by decide +kernel
theorem dX5_placeOfScene_2 : decode cX5_placeOfScene 2 = .ok (.aload_n 0, 1) := by decide +kernel
theorem dX5_placeOfScene_3 : decode cX5_placeOfScene 3 = .ok (.getfield 7, 3) := by decide +kernel
theorem dX5_placeOfScene_6 : decode cX5_placeOfScene 6 = .ok (.iconst 2, 1) := by decide +kernel
theorem dX5_placeOfScene_7 : decode cX5_placeOfScene 7 = .ok (.iload_n 2, 1) := by decide +kernel
theorem dX5_placeOfScene_8 : decode cX5_placeOfScene 8 = .ok (.iadd, 1) := by decide +kernel
theorem dX5_placeOfScene_9 : decode cX5_placeOfScene 9 = .ok (.iaload, 1) := by decide +kernel
theorem dX5_placeOfScene_10 : decode cX5_placeOfScene 10 = .ok (.iload_n 1, 1) := by decide +kernel
theorem dX5_placeOfScene_11 : decode cX5_placeOfScene 11 = .ok (.if_icmp .eq 9, 3) := by decide +kernel
theorem dX5_placeOfScene_14 : decode cX5_placeOfScene 14 = .ok (.iinc 2 1, 3) := by decide +kernel
theorem dX5_placeOfScene_17 : decode cX5_placeOfScene 17 = .ok (.goto (-15), 3) := by decide +kernel
theorem dX5_placeOfScene_20 : decode cX5_placeOfScene 20 = .ok (.iload_n 2, 1) := by decide +kernel
theorem dX5_placeOfScene_21 : decode cX5_placeOfScene 21 = .ok (.ireturn, 1) := by decide +kernel
set_option maxRecDepth 20000 in
theorem ggX5_takesOut_X5_of : GoodIn wsX5_takesOut wsX5_of := goodIn_r _ [7, 2, 8, 9, 10, 11, 12, 13, 14, 15, 16, 17, 18, 19, 20, 21, 22, 23, 24, 25] (by decide +kernel) (by decide +kernel)
set_option maxRecDepth 20000 in
theorem gX5_takesOut_X5_of : GoodIn wsX5_takesOut (wsV RX5 63 RX5 yX5_of wsX5_of) := goodIn_app (goodIn_of _ (by decide +kernel)) ggX5_takesOut_X5_of
theorem dX5_takesOut_0 : decode cX5_takesOut 0 = .ok (.iconst 0, 1) := by decide +kernel
theorem dX5_takesOut_1 : decode cX5_takesOut 1 = .ok (.istore_n 2, 1) := by decide +kernel
theorem dX5_takesOut_2 : decode cX5_takesOut 2 = .ok (.iload_n 2, 1) := by decide +kernel
theorem dX5_takesOut_3 : decode cX5_takesOut 3 = .ok (.bipush 22, 2) := by decide +kernel
theorem dX5_takesOut_5 : decode cX5_takesOut 5 = .ok (.if_icmp .ge 21, 3) := by decide +kernel
theorem dX5_takesOut_8 : decode cX5_takesOut 8 = .ok (.aload_n 0, 1) := by decide +kernel
theorem dX5_takesOut_9 : decode cX5_takesOut 9 = .ok (.getfield 25, 3) := by decide +kernel
theorem dX5_takesOut_12 : decode cX5_takesOut 12 = .ok (.iload_n 2, 1) := by decide +kernel
theorem dX5_takesOut_13 : decode cX5_takesOut 13 = .ok (.aload_n 0, 1) := by decide +kernel
theorem dX5_takesOut_14 : decode cX5_takesOut 14 = .ok (.iload_n 1, 1) := by decide +kernel
theorem dX5_takesOut_15 : decode cX5_takesOut 15 = .ok (.iload_n 2, 1) := by decide +kernel
theorem dX5_takesOut_16 : decode cX5_takesOut 16 = .ok (.invokevirtual 63, 3) := by decide +kernel
theorem dX5_takesOut_19 : decode cX5_takesOut 19 = .ok (.iastore, 1) := by decide +kernel
theorem dX5_takesOut_20 : decode cX5_takesOut 20 = .ok (.iinc 2 1, 3) := by decide +kernel
theorem dX5_takesOut_23 : decode cX5_takesOut 23 = .ok (.goto (-21), 3) := by decide +kernel
theorem dX5_takesOut_26 : decode cX5_takesOut 26 = .ok (.aload_n 0, 1) := by decide +kernel
theorem dX5_takesOut_27 : decode cX5_takesOut 27 = .ok (.getfield 7, 3) := by decide +kernel
theorem dX5_takesOut_30 : decode cX5_takesOut 30 = .ok (.iconst 1, 1) := by decide +kernel
theorem dX5_takesOut_31 : decode cX5_takesOut 31 = .ok (.dup2, 1) := by decide +kernel
theorem dX5_takesOut_32 : decode cX5_takesOut 32 = .ok (.iaload, 1) := by decide +kernel
theorem dX5_takesOut_33 : decode cX5_takesOut 33 = .ok (.iconst 1, 1) := by decide +kernel
theorem dX5_takesOut_34 : decode cX5_takesOut 34 = .ok (.isub, 1) := by decide +kernel
theorem dX5_takesOut_35 : decode cX5_takesOut 35 = .ok (.iastore, 1) := by decide +kernel
theorem dX5_takesOut_36 : decode cX5_takesOut 36 = .ok (.bipush 7, 2) := by decide +kernel
theorem dX5_takesOut_38 : decode cX5_takesOut 38 = .ok (.bipush 22, 2) := by decide +kernel
theorem dX5_takesOut_40 : decode cX5_takesOut 40 = .ok (.iload_n 1, 1) := by decide +kernel
theorem dX5_takesOut_41 : decode cX5_takesOut 41 = .ok (.imul, 1) := by decide +kernel
theorem dX5_takesOut_42 : decode cX5_takesOut 42 = .ok (.iadd, 1) := by decide +kernel
theorem dX5_takesOut_43 : decode cX5_takesOut 43 = .ok (.istore_n 2, 1) := by decide +kernel
theorem dX5_takesOut_44 : decode cX5_takesOut 44 = .ok (.iload_n 2, 1) := by decide +kernel
theorem dX5_takesOut_45 : decode cX5_takesOut 45 = .ok (.bipush 7, 2) := by decide +kernel
theorem dX5_takesOut_47 : decode cX5_takesOut 47 = .ok (.bipush 22, 2) := by decide +kernel
theorem dX5_takesOut_49 : decode cX5_takesOut 49 = .ok (.aload_n 0, 1) := by decide +kernel
theorem dX5_takesOut_50 : decode cX5_takesOut 50 = .ok (.getfield 7, 3) := by decide +kernel
theorem dX5_takesOut_53 : decode cX5_takesOut 53 = .ok (.iconst 1, 1) := by decide +kernel
theorem dX5_takesOut_54 : decode cX5_takesOut 54 = .ok (.iaload, 1) := by decide +kernel
theorem dX5_takesOut_55 : decode cX5_takesOut 55 = .ok (.imul, 1) := by decide +kernel
theorem dX5_takesOut_56 : decode cX5_takesOut 56 = .ok (.iadd, 1) := by decide +kernel
theorem dX5_takesOut_57 : decode cX5_takesOut 57 = .ok (.if_icmp .ge 24, 3) := by decide +kernel
theorem dX5_takesOut_60 : decode cX5_takesOut 60 = .ok (.aload_n 0, 1) := by decide +kernel
theorem dX5_takesOut_61 : decode cX5_takesOut 61 = .ok (.getfield 7, 3) := by decide +kernel
theorem dX5_takesOut_64 : decode cX5_takesOut 64 = .ok (.iload_n 2, 1) := by decide +kernel
theorem dX5_takesOut_65 : decode cX5_takesOut 65 = .ok (.aload_n 0, 1) := by decide +kernel
theorem dX5_takesOut_66 : decode cX5_takesOut 66 = .ok (.getfield 7, 3) := by decide +kernel
theorem dX5_takesOut_69 : decode cX5_takesOut 69 = .ok (.iload_n 2, 1) := by decide +kernel
theorem dX5_takesOut_70 : decode cX5_takesOut 70 = .ok (.bipush 22, 2) := by decide +kernel
theorem dX5_takesOut_72 : decode cX5_takesOut 72 = .ok (.iadd, 1) := by decide +kernel
theorem dX5_takesOut_73 : decode cX5_takesOut 73 = .ok (.iaload, 1) := by decide +kernel
theorem dX5_takesOut_74 : decode cX5_takesOut 74 = .ok (.iastore, 1) := by decide +kernel
theorem dX5_takesOut_75 : decode cX5_takesOut 75 = .ok (.iinc 2 1, 3) := by decide +kernel
theorem dX5_takesOut_78 : decode cX5_takesOut 78 = .ok (.goto (-34), 3) := by decide +kernel
theorem dX5_takesOut_81 : decode cX5_takesOut 81 = .ok (.return_, 1) := by decide +kernel
set_option maxRecDepth 20000 in
theorem ggX5_putsIn_X5_of : GoodIn wsX5_putsIn wsX5_of := goodIn_r _ [7, 1, 8, 9, 10, 11, 12, 13, 14, 15, 16, 17, 18, 19, 20, 21, 22, 23, 24, 25] (by decide +kernel) (by decide +kernel)
set_option maxRecDepth 20000 in
theorem gX5_putsIn_X5_of : GoodIn wsX5_putsIn (wsV RX5 63 RX5 yX5_of wsX5_of) := goodIn_app (goodIn_of _ (by decide +kernel)) ggX5_putsIn_X5_of
theorem dX5_putsIn_0 : decode cX5_putsIn 0 = .ok (.iconst 0, 1) := by decide +kernel
theorem dX5_putsIn_1 : decode cX5_putsIn 1 = .ok (.istore_n 2, 1) := by decide +kernel
theorem dX5_putsIn_2 : decode cX5_putsIn 2 = .ok (.iconst 0, 1) := by decide +kernel
theorem dX5_putsIn_3 : decode cX5_putsIn 3 = .ok (.istore_n 3, 1) := by decide +kernel
theorem dX5_putsIn_4 : decode cX5_putsIn 4 = .ok (.iload_n 2, 1) := by decide +kernel
theorem dX5_putsIn_5 : decode cX5_putsIn 5 = .ok (.aload_n 0, 1) := by decide +kernel
theorem dX5_putsIn_6 : decode cX5_putsIn 6 = .ok (.getfield 7, 3) := by decide +kernel
theorem dX5_putsIn_9 : decode cX5_putsIn 9 = .ok (.iconst 1, 1) := by decide +kernel
theorem dX5_putsIn_10 : decode cX5_putsIn 10 = .ok (.iaload, 1) := by decide +kernel
theorem dX5_putsIn_11 : decode cX5_putsIn 11 = .ok (.if_icmp .ge 52, 3) := by decide +kernel
theorem dX5_putsIn_14 : decode cX5_putsIn 14 = .ok (.iload_n 3, 1) := by decide +kernel
theorem dX5_putsIn_15 : decode cX5_putsIn 15 = .ok (.iload_n 1, 1) := by decide +kernel
theorem dX5_putsIn_16 : decode cX5_putsIn 16 = .ok (.if_icmp .lt 18, 3) := by decide +kernel
theorem dX5_putsIn_19 : decode cX5_putsIn 19 = .ok (.aload_n 0, 1) := by decide +kernel
theorem dX5_putsIn_20 : decode cX5_putsIn 20 = .ok (.iload_n 2, 1) := by decide +kernel
theorem dX5_putsIn_21 : decode cX5_putsIn 21 = .ok (.iconst 1, 1) := by decide +kernel
theorem dX5_putsIn_22 : decode cX5_putsIn 22 = .ok (.invokevirtual 63, 3) := by decide +kernel
theorem dX5_putsIn_25 : decode cX5_putsIn 25 = .ok (.aload_n 0, 1) := by decide +kernel
theorem dX5_putsIn_26 : decode cX5_putsIn 26 = .ok (.getfield 25, 3) := by decide +kernel
theorem dX5_putsIn_29 : decode cX5_putsIn 29 = .ok (.iconst 1, 1) := by decide +kernel
theorem dX5_putsIn_30 : decode cX5_putsIn 30 = .ok (.iaload, 1) := by decide +kernel
theorem dX5_putsIn_31 : decode cX5_putsIn 31 = .ok (.if_icmp .eq 32, 3) := by decide +kernel
theorem dX5_putsIn_34 : decode cX5_putsIn 34 = .ok (.iload_n 3, 1) := by decide +kernel
theorem dX5_putsIn_35 : decode cX5_putsIn 35 = .ok (.aload_n 0, 1) := by decide +kernel
theorem dX5_putsIn_36 : decode cX5_putsIn 36 = .ok (.iload_n 2, 1) := by decide +kernel
theorem dX5_putsIn_37 : decode cX5_putsIn 37 = .ok (.iconst 1, 1) := by decide +kernel
theorem dX5_putsIn_38 : decode cX5_putsIn 38 = .ok (.invokevirtual 63, 3) := by decide +kernel
theorem dX5_putsIn_41 : decode cX5_putsIn 41 = .ok (.aload_n 0, 1) := by decide +kernel
theorem dX5_putsIn_42 : decode cX5_putsIn 42 = .ok (.getfield 25, 3) := by decide +kernel
theorem dX5_putsIn_45 : decode cX5_putsIn 45 = .ok (.iconst 1, 1) := by decide +kernel
theorem dX5_putsIn_46 : decode cX5_putsIn 46 = .ok (.iaload, 1) := by decide +kernel
theorem dX5_putsIn_47 : decode cX5_putsIn 47 = .ok (.if_icmp .ne 7, 3) := by decide +kernel
theorem dX5_putsIn_50 : decode cX5_putsIn 50 = .ok (.iconst 1, 1) := by decide +kernel
theorem dX5_putsIn_51 : decode cX5_putsIn 51 = .ok (.goto 4, 3) := by decide +kernel
theorem dX5_putsIn_54 : decode cX5_putsIn 54 = .ok (.iconst 0, 1) := by decide +kernel
theorem dX5_putsIn_55 : decode cX5_putsIn 55 = .ok (.iadd, 1) := by decide +kernel
theorem dX5_putsIn_56 : decode cX5_putsIn 56 = .ok (.istore_n 3, 1) := by decide +kernel
theorem dX5_putsIn_57 : decode cX5_putsIn 57 = .ok (.iinc 2 1, 3) := by decide +kernel
theorem dX5_putsIn_60 : decode cX5_putsIn 60 = .ok (.goto (-56), 3) := by decide +kernel
theorem dX5_putsIn_63 : decode cX5_putsIn 63 = .ok (.bipush 7, 2) := by decide +kernel
theorem dX5_putsIn_65 : decode cX5_putsIn 65 = .ok (.bipush 22, 2) := by decide +kernel
theorem dX5_putsIn_67 : decode cX5_putsIn 67 = .ok (.aload_n 0, 1) := by decide +kernel
theorem dX5_putsIn_68 : decode cX5_putsIn 68 = .ok (.getfield 7, 3) := by decide +kernel
theorem dX5_putsIn_71 : decode cX5_putsIn 71 = .ok (.iconst 1, 1) := by decide +kernel
theorem dX5_putsIn_72 : decode cX5_putsIn 72 = .ok (.iaload, 1) := by decide +kernel
theorem dX5_putsIn_73 : decode cX5_putsIn 73 = .ok (.imul, 1) := by decide +kernel
theorem dX5_putsIn_74 : decode cX5_putsIn 74 = .ok (.iadd, 1) := by decide +kernel
theorem dX5_putsIn_75 : decode cX5_putsIn 75 = .ok (.iconst 1, 1) := by decide +kernel
theorem dX5_putsIn_76 : decode cX5_putsIn 76 = .ok (.isub, 1) := by decide +kernel
theorem dX5_putsIn_77 : decode cX5_putsIn 77 = .ok (.istore 4, 2) := by decide +kernel
theorem dX5_putsIn_79 : decode cX5_putsIn 79 = .ok (.iload 4, 2) := by decide +kernel
theorem dX5_putsIn_81 : decode cX5_putsIn 81 = .ok (.bipush 7, 2) := by decide +kernel
theorem dX5_putsIn_83 : decode cX5_putsIn 83 = .ok (.bipush 22, 2) := by decide +kernel
theorem dX5_putsIn_85 : decode cX5_putsIn 85 = .ok (.iload_n 2, 1) := by decide +kernel
theorem dX5_putsIn_86 : decode cX5_putsIn 86 = .ok (.imul, 1) := by decide +kernel
theorem dX5_putsIn_87 : decode cX5_putsIn 87 = .ok (.iadd, 1) := by decide +kernel
theorem dX5_putsIn_88 : decode cX5_putsIn 88 = .ok (.if_icmp .lt 26, 3) := by decide +kernel
theorem dX5_putsIn_91 : decode cX5_putsIn 91 = .ok (.aload_n 0, 1) := by decide +kernel
theorem dX5_putsIn_92 : decode cX5_putsIn 92 = .ok (.getfield 7, 3) := by decide +kernel
theorem dX5_putsIn_95 : decode cX5_putsIn 95 = .ok (.iload 4, 2) := by decide +kernel
theorem dX5_putsIn_97 : decode cX5_putsIn 97 = .ok (.bipush 22, 2) := by decide +kernel
theorem dX5_putsIn_99 : decode cX5_putsIn 99 = .ok (.iadd, 1) := by decide +kernel
theorem dX5_putsIn_100 : decode cX5_putsIn 100 = .ok (.aload_n 0, 1) := by decide +kernel
theorem dX5_putsIn_101 : decode cX5_putsIn 101 = .ok (.getfield 7, 3) := by decide +kernel
theorem dX5_putsIn_104 : decode cX5_putsIn 104 = .ok (.iload 4, 2) := by decide +kernel
theorem dX5_putsIn_106 : decode cX5_putsIn 106 = .ok (.iaload, 1) := by decide +kernel
theorem dX5_putsIn_107 : decode cX5_putsIn 107 = .ok (.iastore, 1) := by decide +kernel
theorem dX5_putsIn_108 : decode cX5_putsIn 108 = .ok (.iinc 4 (-1), 3) := by decide +kernel
theorem dX5_putsIn_111 : decode cX5_putsIn 111 = .ok (.goto (-32), 3) := by decide +kernel
theorem dX5_putsIn_114 : decode cX5_putsIn 114 = .ok (.aload_n 0, 1) := by decide +kernel
theorem dX5_putsIn_115 : decode cX5_putsIn 115 = .ok (.getfield 7, 3) := by decide +kernel
theorem dX5_putsIn_118 : decode cX5_putsIn 118 = .ok (.iconst 1, 1) := by decide +kernel
theorem dX5_putsIn_119 : decode cX5_putsIn 119 = .ok (.dup2, 1) := by decide +kernel
theorem dX5_putsIn_120 : decode cX5_putsIn 120 = .ok (.iaload, 1) := by decide +kernel
theorem dX5_putsIn_121 : decode cX5_putsIn 121 = .ok (.iconst 1, 1) := by decide +kernel
theorem dX5_putsIn_122 : decode cX5_putsIn 122 = .ok (.iadd, 1) := by decide +kernel
theorem dX5_putsIn_123 : decode cX5_putsIn 123 = .ok (.iastore, 1) := by decide +kernel
theorem dX5_putsIn_124 : decode cX5_putsIn 124 = .ok (.iconst 0, 1) := by decide +kernel
theorem dX5_putsIn_125 : decode cX5_putsIn 125 = .ok (.istore 4, 2) := by decide +kernel
theorem dX5_putsIn_127 : decode cX5_putsIn 127 = .ok (.iload 4, 2) := by decide +kernel
theorem dX5_putsIn_129 : decode cX5_putsIn 129 = .ok (.bipush 22, 2) := by decide +kernel
theorem dX5_putsIn_131 : decode cX5_putsIn 131 = .ok (.if_icmp .ge 31, 3) := by decide +kernel
theorem dX5_putsIn_134 : decode cX5_putsIn 134 = .ok (.aload_n 0, 1) := by decide +kernel
theorem dX5_putsIn_135 : decode cX5_putsIn 135 = .ok (.getfield 7, 3) := by decide +kernel
theorem dX5_putsIn_138 : decode cX5_putsIn 138 = .ok (.bipush 7, 2) := by decide +kernel
theorem dX5_putsIn_140 : decode cX5_putsIn 140 = .ok (.bipush 22, 2) := by decide +kernel
theorem dX5_putsIn_142 : decode cX5_putsIn 142 = .ok (.iload_n 2, 1) := by decide +kernel
theorem dX5_putsIn_143 : decode cX5_putsIn 143 = .ok (.imul, 1) := by decide +kernel
theorem dX5_putsIn_144 : decode cX5_putsIn 144 = .ok (.iadd, 1) := by decide +kernel
theorem dX5_putsIn_145 : decode cX5_putsIn 145 = .ok (.iload 4, 2) := by decide +kernel
theorem dX5_putsIn_147 : decode cX5_putsIn 147 = .ok (.iadd, 1) := by decide +kernel
theorem dX5_putsIn_148 : decode cX5_putsIn 148 = .ok (.aload_n 0, 1) := by decide +kernel
theorem dX5_putsIn_149 : decode cX5_putsIn 149 = .ok (.getfield 25, 3) := by decide +kernel
theorem dX5_putsIn_152 : decode cX5_putsIn 152 = .ok (.iload 4, 2) := by decide +kernel
theorem dX5_putsIn_154 : decode cX5_putsIn 154 = .ok (.iaload, 1) := by decide +kernel
theorem dX5_putsIn_155 : decode cX5_putsIn 155 = .ok (.iastore, 1) := by decide +kernel
theorem dX5_putsIn_156 : decode cX5_putsIn 156 = .ok (.iinc 4 1, 3) := by decide +kernel
theorem dX5_putsIn_159 : decode cX5_putsIn 159 = .ok (.goto (-32), 3) := by decide +kernel
theorem dX5_putsIn_162 : decode cX5_putsIn 162 = .ok (.return_, 1) := by decide +kernel
set_option maxRecDepth 20000 in
theorem ggX5_moves_X5_lieOf : GoodIn wsX5_moves wsX5_lieOf := goodIn_r _ [6, 7, 8, 9, 10, 5, 11, 20, 21, 22, 23, 24, 25, 26, 27, 28, 29, 30, 31, 32, 33, 34, 35, 36, 37] (by decide +kernel) (by decide +kernel)
set_option maxRecDepth 20000 in
theorem gX5_moves_X5_lieOf : GoodIn wsX5_moves (wsV RX5 67 RX5 yX5_lieOf wsX5_lieOf) := goodIn_app (goodIn_of _ (by decide +kernel)) ggX5_moves_X5_lieOf
set_option maxRecDepth 20000 in
theorem ggX5_moves_X5_takesOut : GoodIn wsX5_moves wsX5_takesOut := goodIn_r _ [15, 1, 7, 8, 9, 10, 5, 11, 20, 21, 22, 23, 24, 25, 26, 27, 28, 29, 30, 31, 32, 33, 34, 35, 36, 37] (by decide +kernel) (by decide +kernel)
set_option maxRecDepth 20000 in
theorem gX5_moves_X5_takesOut : GoodIn wsX5_moves (wsV RX5 71 RX5 yX5_takesOut wsX5_takesOut) := goodIn_app (goodIn_of _ (by decide +kernel)) ggX5_moves_X5_takesOut
set_option maxRecDepth 20000 in
theorem ggX5_moves_X5_putsIn : GoodIn wsX5_moves wsX5_putsIn := goodIn_r _ [19, 7, 1, 8, 9, 10, 5, 11, 20, 21, 22, 23, 24, 25, 26, 27, 28, 29, 30, 31, 32, 33, 34, 35, 36, 37] (by decide +kernel) (by decide +kernel)
set_option maxRecDepth 20000 in
theorem gX5_moves_X5_putsIn : GoodIn wsX5_moves (wsV RX5 75 RX5 yX5_putsIn wsX5_putsIn) := goodIn_app (goodIn_of _ (by decide +kernel)) ggX5_moves_X5_putsIn
theorem dX5_moves_0 : decode cX5_moves 0 = .ok (.aload_n 0, 1) := by decide +kernel
theorem dX5_moves_1 : decode cX5_moves 1 = .ok (.aload_n 0, 1) := by decide +kernel
theorem dX5_moves_2 : decode cX5_moves 2 = .ok (.iload_n 1, 1) := by decide +kernel
theorem dX5_moves_3 : decode cX5_moves 3 = .ok (.invokevirtual 67, 3) := by decide +kernel
theorem dX5_moves_6 : decode cX5_moves 6 = .ok (.invokevirtual 71, 3) := by decide +kernel
theorem dX5_moves_9 : decode cX5_moves 9 = .ok (.aload_n 0, 1) := by decide +kernel
theorem dX5_moves_10 : decode cX5_moves 10 = .ok (.getfield 25, 3) := by decide +kernel
theorem dX5_moves_13 : decode cX5_moves 13 = .ok (.iconst 1, 1) := by decide +kernel
theorem dX5_moves_14 : decode cX5_moves 14 = .ok (.iload_n 2, 1) := by decide +kernel
theorem dX5_moves_15 : decode cX5_moves 15 = .ok (.iastore, 1) := by decide +kernel
theorem dX5_moves_16 : decode cX5_moves 16 = .ok (.aload_n 0, 1) := by decide +kernel
theorem dX5_moves_17 : decode cX5_moves 17 = .ok (.iload_n 3, 1) := by decide +kernel
theorem dX5_moves_18 : decode cX5_moves 18 = .ok (.invokevirtual 75, 3) := by decide +kernel
theorem dX5_moves_21 : decode cX5_moves 21 = .ok (.return_, 1) := by decide +kernel
set_option maxRecDepth 20000 in
theorem ggX5_findsOrder_X5_of : GoodIn wsX5_findsOrder wsX5_of := goodIn_r _ [7, 1, 8, 9, 10, 11, 12, 13, 14, 15, 16, 17, 18, 19, 20, 21, 22, 23, 24, 25] (by decide +kernel) (by decide +kernel)
set_option maxRecDepth 20000 in
theorem gX5_findsOrder_X5_of : GoodIn wsX5_findsOrder (wsV RX5 63 RX5 yX5_of wsX5_of) := goodIn_app (goodIn_of _ (by decide +kernel)) ggX5_findsOrder_X5_of
theorem dX5_findsOrder_0 : decode cX5_findsOrder 0 = .ok (.iconst 0, 1) := by decide +kernel
theorem dX5_findsOrder_1 : decode cX5_findsOrder 1 = .ok (.istore_n 1, 1) := by decide +kernel
theorem dX5_findsOrder_2 : decode cX5_findsOrder 2 = .ok (.iconst 0, 1) := by decide +kernel
theorem dX5_findsOrder_3 : decode cX5_findsOrder 3 = .ok (.istore_n 2, 1) := by decide +kernel
theorem dX5_findsOrder_4 : decode cX5_findsOrder 4 = .ok (.iload_n 2, 1) := by decide +kernel
theorem dX5_findsOrder_5 : decode cX5_findsOrder 5 = .ok (.iconst 5, 1) := by decide +kernel
theorem dX5_findsOrder_6 : decode cX5_findsOrder 6 = .ok (.if_icmp .ge 54, 3) := by decide +kernel
theorem dX5_findsOrder_9 : decode cX5_findsOrder 9 = .ok (.iconst 0, 1) := by decide +kernel
theorem dX5_findsOrder_10 : decode cX5_findsOrder 10 = .ok (.istore_n 3, 1) := by decide +kernel
theorem dX5_findsOrder_11 : decode cX5_findsOrder 11 = .ok (.iload_n 3, 1) := by decide +kernel
theorem dX5_findsOrder_12 : decode cX5_findsOrder 12 = .ok (.aload_n 0, 1) := by decide +kernel
theorem dX5_findsOrder_13 : decode cX5_findsOrder 13 = .ok (.getfield 7, 3) := by decide +kernel
theorem dX5_findsOrder_16 : decode cX5_findsOrder 16 = .ok (.iconst 1, 1) := by decide +kernel
theorem dX5_findsOrder_17 : decode cX5_findsOrder 17 = .ok (.iaload, 1) := by decide +kernel
theorem dX5_findsOrder_18 : decode cX5_findsOrder 18 = .ok (.if_icmp .ge 36, 3) := by decide +kernel
theorem dX5_findsOrder_21 : decode cX5_findsOrder 21 = .ok (.aload_n 0, 1) := by decide +kernel
theorem dX5_findsOrder_22 : decode cX5_findsOrder 22 = .ok (.iload_n 3, 1) := by decide +kernel
theorem dX5_findsOrder_23 : decode cX5_findsOrder 23 = .ok (.iconst 1, 1) := by decide +kernel
theorem dX5_findsOrder_24 : decode cX5_findsOrder 24 = .ok (.invokevirtual 63, 3) := by decide +kernel
theorem dX5_findsOrder_27 : decode cX5_findsOrder 27 = .ok (.aload_n 0, 1) := by decide +kernel
theorem dX5_findsOrder_28 : decode cX5_findsOrder 28 = .ok (.getfield 7, 3) := by decide +kernel
theorem dX5_findsOrder_31 : decode cX5_findsOrder 31 = .ok (.iconst 2, 1) := by decide +kernel
theorem dX5_findsOrder_32 : decode cX5_findsOrder 32 = .ok (.iload_n 2, 1) := by decide +kernel
theorem dX5_findsOrder_33 : decode cX5_findsOrder 33 = .ok (.iadd, 1) := by decide +kernel
theorem dX5_findsOrder_34 : decode cX5_findsOrder 34 = .ok (.iaload, 1) := by decide +kernel
theorem dX5_findsOrder_35 : decode cX5_findsOrder 35 = .ok (.if_icmp .ne 13, 3) := by decide +kernel
theorem dX5_findsOrder_38 : decode cX5_findsOrder 38 = .ok (.aload_n 0, 1) := by decide +kernel
theorem dX5_findsOrder_39 : decode cX5_findsOrder 39 = .ok (.getfield 28, 3) := by decide +kernel
theorem dX5_findsOrder_42 : decode cX5_findsOrder 42 = .ok (.iload_n 1, 1) := by decide +kernel
theorem dX5_findsOrder_43 : decode cX5_findsOrder 43 = .ok (.iload_n 3, 1) := by decide +kernel
theorem dX5_findsOrder_44 : decode cX5_findsOrder 44 = .ok (.iastore, 1) := by decide +kernel
theorem dX5_findsOrder_45 : decode cX5_findsOrder 45 = .ok (.iinc 1 1, 3) := by decide +kernel
theorem dX5_findsOrder_48 : decode cX5_findsOrder 48 = .ok (.iinc 3 1, 3) := by decide +kernel
theorem dX5_findsOrder_51 : decode cX5_findsOrder 51 = .ok (.goto (-40), 3) := by decide +kernel
theorem dX5_findsOrder_54 : decode cX5_findsOrder 54 = .ok (.iinc 2 1, 3) := by decide +kernel
theorem dX5_findsOrder_57 : decode cX5_findsOrder 57 = .ok (.goto (-53), 3) := by decide +kernel
theorem dX5_findsOrder_60 : decode cX5_findsOrder 60 = .ok (.return_, 1) := by decide +kernel
set_option maxRecDepth 20000 in
theorem ggX5_breaks_X5_of : GoodIn wsX5_breaks wsX5_of := goodIn_r _ [7, 8, 9, 10, 11, 12, 13, 14, 15, 16, 17, 18, 19, 20, 21, 22, 23, 24, 25, 26] (by decide +kernel) (by decide +kernel)
set_option maxRecDepth 20000 in
theorem gX5_breaks_X5_of : GoodIn wsX5_breaks (wsV RX5 63 RX5 yX5_of wsX5_of) := goodIn_app (goodIn_of _ (by decide +kernel)) ggX5_breaks_X5_of
theorem dX5_breaks_0 : decode cX5_breaks 0 = .ok (.iconst 5, 1) := by decide +kernel
theorem dX5_breaks_1 : decode cX5_breaks 1 = .ok (.aload_n 0, 1) := by decide +kernel
theorem dX5_breaks_2 : decode cX5_breaks 2 = .ok (.getfield 78, 3) := by decide +kernel
theorem dX5_breaks_5 : decode cX5_breaks 5 = .ok (.imul, 1) := by decide +kernel
theorem dX5_breaks_6 : decode cX5_breaks 6 = .ok (.istore 6, 2) := by decide +kernel
theorem dX5_breaks_8 : decode cX5_breaks 8 = .ok (.aload_n 0, 1) := by decide +kernel
theorem dX5_breaks_9 : decode cX5_breaks 9 = .ok (.getfield 31, 3) := by decide +kernel
theorem dX5_breaks_12 : decode cX5_breaks 12 = .ok (.iload 6, 2) := by decide +kernel
theorem dX5_breaks_14 : decode cX5_breaks 14 = .ok (.aload_n 0, 1) := by decide +kernel
theorem dX5_breaks_15 : decode cX5_breaks 15 = .ok (.iload_n 1, 1) := by decide +kernel
theorem dX5_breaks_16 : decode cX5_breaks 16 = .ok (.iconst 0, 1) := by decide +kernel
theorem dX5_breaks_17 : decode cX5_breaks 17 = .ok (.invokevirtual 63, 3) := by decide +kernel
theorem dX5_breaks_20 : decode cX5_breaks 20 = .ok (.iastore, 1) := by decide +kernel
theorem dX5_breaks_21 : decode cX5_breaks 21 = .ok (.aload_n 0, 1) := by decide +kernel
theorem dX5_breaks_22 : decode cX5_breaks 22 = .ok (.getfield 31, 3) := by decide +kernel
theorem dX5_breaks_25 : decode cX5_breaks 25 = .ok (.iload 6, 2) := by decide +kernel
theorem dX5_breaks_27 : decode cX5_breaks 27 = .ok (.iconst 1, 1) := by decide +kernel
theorem dX5_breaks_28 : decode cX5_breaks 28 = .ok (.iadd, 1) := by decide +kernel
theorem dX5_breaks_29 : decode cX5_breaks 29 = .ok (.iload_n 2, 1) := by decide +kernel
theorem dX5_breaks_30 : decode cX5_breaks 30 = .ok (.iastore, 1) := by decide +kernel
theorem dX5_breaks_31 : decode cX5_breaks 31 = .ok (.aload_n 0, 1) := by decide +kernel
theorem dX5_breaks_32 : decode cX5_breaks 32 = .ok (.getfield 31, 3) := by decide +kernel
theorem dX5_breaks_35 : decode cX5_breaks 35 = .ok (.iload 6, 2) := by decide +kernel
theorem dX5_breaks_37 : decode cX5_breaks 37 = .ok (.iconst 2, 1) := by decide +kernel
theorem dX5_breaks_38 : decode cX5_breaks 38 = .ok (.iadd, 1) := by decide +kernel
theorem dX5_breaks_39 : decode cX5_breaks 39 = .ok (.iload_n 3, 1) := by decide +kernel
theorem dX5_breaks_40 : decode cX5_breaks 40 = .ok (.iastore, 1) := by decide +kernel
theorem dX5_breaks_41 : decode cX5_breaks 41 = .ok (.aload_n 0, 1) := by decide +kernel
theorem dX5_breaks_42 : decode cX5_breaks 42 = .ok (.getfield 31, 3) := by decide +kernel
theorem dX5_breaks_45 : decode cX5_breaks 45 = .ok (.iload 6, 2) := by decide +kernel
theorem dX5_breaks_47 : decode cX5_breaks 47 = .ok (.iconst 3, 1) := by decide +kernel
theorem dX5_breaks_48 : decode cX5_breaks 48 = .ok (.iadd, 1) := by decide +kernel
theorem dX5_breaks_49 : decode cX5_breaks 49 = .ok (.iload 4, 2) := by decide +kernel
theorem dX5_breaks_51 : decode cX5_breaks 51 = .ok (.iastore, 1) := by decide +kernel
theorem dX5_breaks_52 : decode cX5_breaks 52 = .ok (.aload_n 0, 1) := by decide +kernel
theorem dX5_breaks_53 : decode cX5_breaks 53 = .ok (.getfield 31, 3) := by decide +kernel
theorem dX5_breaks_56 : decode cX5_breaks 56 = .ok (.iload 6, 2) := by decide +kernel
theorem dX5_breaks_58 : decode cX5_breaks 58 = .ok (.iconst 4, 1) := by decide +kernel
theorem dX5_breaks_59 : decode cX5_breaks 59 = .ok (.iadd, 1) := by decide +kernel
theorem dX5_breaks_60 : decode cX5_breaks 60 = .ok (.iload 5, 2) := by decide +kernel
theorem dX5_breaks_62 : decode cX5_breaks 62 = .ok (.iastore, 1) := by decide +kernel
theorem dX5_breaks_63 : decode cX5_breaks 63 = .ok (.aload_n 0, 1) := by decide +kernel
theorem dX5_breaks_64 : decode cX5_breaks 64 = .ok (.dup, 1) := by decide +kernel
theorem dX5_breaks_65 : decode cX5_breaks 65 = .ok (.getfield 78, 3) := by decide +kernel
theorem dX5_breaks_68 : decode cX5_breaks 68 = .ok (.iconst 1, 1) := by decide +kernel
theorem dX5_breaks_69 : decode cX5_breaks 69 = .ok (.iadd, 1) := by decide +kernel
theorem dX5_breaks_70 : decode cX5_breaks 70 = .ok (.putfield 78, 3) := by decide +kernel
theorem dX5_breaks_73 : decode cX5_breaks 73 = .ok (.return_, 1) := by decide +kernel
set_option maxRecDepth 20000 in
theorem ggX5_happens_X5_eventOf : GoodIn wsX5_happens wsX5_eventOf := goodIn_r _ [7, 8, 9, 10, 6, 11, 12, 19, 20, 21, 22, 23, 24, 25, 26, 27, 28, 29, 30, 31, 32, 33, 34, 35, 36] (by decide +kernel) (by decide +kernel)
set_option maxRecDepth 20000 in
theorem gX5_happens_X5_eventOf : GoodIn wsX5_happens (wsV RX5 81 RX5 yX5_eventOf wsX5_eventOf) := goodIn_app (goodIn_of _ (by decide +kernel)) ggX5_happens_X5_eventOf
set_option maxRecDepth 20000 in
theorem ggX5_happens_X5_breaks : GoodIn wsX5_happens wsX5_breaks := goodIn_r _ [16, 17, 18, 8, 9, 10, 6, 11, 12, 19, 20, 21, 22, 23, 24, 25, 26, 27, 28, 29, 30, 31, 32, 33, 34, 35, 36] (by decide +kernel) (by decide +kernel)
set_option maxRecDepth 20000 in
theorem gX5_happens_X5_breaks : GoodIn wsX5_happens (wsV RX5 85 RX5 yX5_breaks wsX5_breaks) := goodIn_app (goodIn_of _ (by decide +kernel)) ggX5_happens_X5_breaks
theorem dX5_happens_0 : decode cX5_happens 0 = .ok (.aload_n 0, 1) := by decide +kernel
theorem dX5_happens_1 : decode cX5_happens 1 = .ok (.iload_n 1, 1) := by decide +kernel
theorem dX5_happens_2 : decode cX5_happens 2 = .ok (.iload_n 2, 1) := by decide +kernel
theorem dX5_happens_3 : decode cX5_happens 3 = .ok (.iconst 0, 1) := by decide +kernel
theorem dX5_happens_4 : decode cX5_happens 4 = .ok (.invokevirtual 81, 3) := by decide +kernel
theorem dX5_happens_7 : decode cX5_happens 7 = .ok (.istore_n 3, 1) := by decide +kernel
theorem dX5_happens_8 : decode cX5_happens 8 = .ok (.aload_n 0, 1) := by decide +kernel
theorem dX5_happens_9 : decode cX5_happens 9 = .ok (.iload_n 1, 1) := by decide +kernel
theorem dX5_happens_10 : decode cX5_happens 10 = .ok (.iload_n 2, 1) := by decide +kernel
theorem dX5_happens_11 : decode cX5_happens 11 = .ok (.iconst 1, 1) := by decide +kernel
theorem dX5_happens_12 : decode cX5_happens 12 = .ok (.invokevirtual 81, 3) := by decide +kernel
theorem dX5_happens_15 : decode cX5_happens 15 = .ok (.istore 4, 2) := by decide +kernel
theorem dX5_happens_17 : decode cX5_happens 17 = .ok (.aload_n 0, 1) := by decide +kernel
theorem dX5_happens_18 : decode cX5_happens 18 = .ok (.iload_n 1, 1) := by decide +kernel
theorem dX5_happens_19 : decode cX5_happens 19 = .ok (.iload_n 2, 1) := by decide +kernel
theorem dX5_happens_20 : decode cX5_happens 20 = .ok (.iconst 2, 1) := by decide +kernel
theorem dX5_happens_21 : decode cX5_happens 21 = .ok (.invokevirtual 81, 3) := by decide +kernel
theorem dX5_happens_24 : decode cX5_happens 24 = .ok (.istore 5, 2) := by decide +kernel
theorem dX5_happens_26 : decode cX5_happens 26 = .ok (.iload 4, 2) := by decide +kernel
theorem dX5_happens_28 : decode cX5_happens 28 = .ok (.tableswitch 148 0 5 #[40, 73, 106, 148, 148, 138], 40) := by decide +kernel
theorem dX5_happens_68 : decode cX5_happens 68 = .ok (.aload_n 0, 1) := by decide +kernel
theorem dX5_happens_69 : decode cX5_happens 69 = .ok (.getfield 34, 3) := by decide +kernel
theorem dX5_happens_72 : decode cX5_happens 72 = .ok (.iload 5, 2) := by decide +kernel
theorem dX5_happens_74 : decode cX5_happens 74 = .ok (.iaload, 1) := by decide +kernel
theorem dX5_happens_75 : decode cX5_happens 75 = .ok (.bipush (-5), 2) := by decide +kernel
theorem dX5_happens_77 : decode cX5_happens 77 = .ok (.if_icmp .eq 13, 3) := by decide +kernel
theorem dX5_happens_80 : decode cX5_happens 80 = .ok (.aload_n 0, 1) := by decide +kernel
theorem dX5_happens_81 : decode cX5_happens 81 = .ok (.iload_n 1, 1) := by decide +kernel
theorem dX5_happens_82 : decode cX5_happens 82 = .ok (.iconst 1, 1) := by decide +kernel
theorem dX5_happens_83 : decode cX5_happens 83 = .ok (.iload_n 3, 1) := by decide +kernel
theorem dX5_happens_84 : decode cX5_happens 84 = .ok (.iload 5, 2) := by decide +kernel
theorem dX5_happens_86 : decode cX5_happens 86 = .ok (.iload_n 2, 1) := by decide +kernel
theorem dX5_happens_87 : decode cX5_happens 87 = .ok (.invokevirtual 85, 3) := by decide +kernel
theorem dX5_happens_90 : decode cX5_happens 90 = .ok (.aload_n 0, 1) := by decide +kernel
theorem dX5_happens_91 : decode cX5_happens 91 = .ok (.getfield 34, 3) := by decide +kernel
theorem dX5_happens_94 : decode cX5_happens 94 = .ok (.iload 5, 2) := by decide +kernel
theorem dX5_happens_96 : decode cX5_happens 96 = .ok (.iload_n 3, 1) := by decide +kernel
theorem dX5_happens_97 : decode cX5_happens 97 = .ok (.iastore, 1) := by decide +kernel
theorem dX5_happens_98 : decode cX5_happens 98 = .ok (.goto 110, 3) := by decide +kernel
theorem dX5_happens_101 : decode cX5_happens 101 = .ok (.aload_n 0, 1) := by decide +kernel
theorem dX5_happens_102 : decode cX5_happens 102 = .ok (.getfield 34, 3) := by decide +kernel
theorem dX5_happens_105 : decode cX5_happens 105 = .ok (.iload 5, 2) := by decide +kernel
theorem dX5_happens_107 : decode cX5_happens 107 = .ok (.iaload, 1) := by decide +kernel
theorem dX5_happens_108 : decode cX5_happens 108 = .ok (.iload_n 3, 1) := by decide +kernel
theorem dX5_happens_109 : decode cX5_happens 109 = .ok (.if_icmp .eq 13, 3) := by decide +kernel
theorem dX5_happens_112 : decode cX5_happens 112 = .ok (.aload_n 0, 1) := by decide +kernel
theorem dX5_happens_113 : decode cX5_happens 113 = .ok (.iload_n 1, 1) := by decide +kernel
theorem dX5_happens_114 : decode cX5_happens 114 = .ok (.iconst 2, 1) := by decide +kernel
theorem dX5_happens_115 : decode cX5_happens 115 = .ok (.iload_n 3, 1) := by decide +kernel
theorem dX5_happens_116 : decode cX5_happens 116 = .ok (.iload 5, 2) := by decide +kernel
theorem dX5_happens_118 : decode cX5_happens 118 = .ok (.iload_n 2, 1) := by decide +kernel
theorem dX5_happens_119 : decode cX5_happens 119 = .ok (.invokevirtual 85, 3) := by decide +kernel
theorem dX5_happens_122 : decode cX5_happens 122 = .ok (.aload_n 0, 1) := by decide +kernel
theorem dX5_happens_123 : decode cX5_happens 123 = .ok (.getfield 34, 3) := by decide +kernel
theorem dX5_happens_126 : decode cX5_happens 126 = .ok (.iload 5, 2) := by decide +kernel
theorem dX5_happens_128 : decode cX5_happens 128 = .ok (.bipush (-5), 2) := by decide +kernel
theorem dX5_happens_130 : decode cX5_happens 130 = .ok (.iastore, 1) := by decide +kernel
theorem dX5_happens_131 : decode cX5_happens 131 = .ok (.goto 77, 3) := by decide +kernel
theorem dX5_happens_134 : decode cX5_happens 134 = .ok (.aload_n 0, 1) := by decide +kernel
theorem dX5_happens_135 : decode cX5_happens 135 = .ok (.getfield 34, 3) := by decide +kernel
theorem dX5_happens_138 : decode cX5_happens 138 = .ok (.iload 5, 2) := by decide +kernel
theorem dX5_happens_140 : decode cX5_happens 140 = .ok (.iaload, 1) := by decide +kernel
theorem dX5_happens_141 : decode cX5_happens 141 = .ok (.iload_n 3, 1) := by decide +kernel
theorem dX5_happens_142 : decode cX5_happens 142 = .ok (.if_icmp .eq 13, 3) := by decide +kernel
theorem dX5_happens_145 : decode cX5_happens 145 = .ok (.aload_n 0, 1) := by decide +kernel
theorem dX5_happens_146 : decode cX5_happens 146 = .ok (.iload_n 1, 1) := by decide +kernel
theorem dX5_happens_147 : decode cX5_happens 147 = .ok (.iconst 3, 1) := by decide +kernel
theorem dX5_happens_148 : decode cX5_happens 148 = .ok (.iload_n 3, 1) := by decide +kernel
theorem dX5_happens_149 : decode cX5_happens 149 = .ok (.iload 5, 2) := by decide +kernel
theorem dX5_happens_151 : decode cX5_happens 151 = .ok (.iload_n 2, 1) := by decide +kernel
theorem dX5_happens_152 : decode cX5_happens 152 = .ok (.invokevirtual 85, 3) := by decide +kernel
theorem dX5_happens_155 : decode cX5_happens 155 = .ok (.aload_n 0, 1) := by decide +kernel
theorem dX5_happens_156 : decode cX5_happens 156 = .ok (.getfield 34, 3) := by decide +kernel
theorem dX5_happens_159 : decode cX5_happens 159 = .ok (.iload 5, 2) := by decide +kernel
theorem dX5_happens_161 : decode cX5_happens 161 = .ok (.iload_n 3, 1) := by decide +kernel
theorem dX5_happens_162 : decode cX5_happens 162 = .ok (.iastore, 1) := by decide +kernel
theorem dX5_happens_163 : decode cX5_happens 163 = .ok (.goto 45, 3) := by decide +kernel
theorem dX5_happens_166 : decode cX5_happens 166 = .ok (.aload_n 0, 1) := by decide +kernel
theorem dX5_happens_167 : decode cX5_happens 167 = .ok (.getfield 37, 3) := by decide +kernel
theorem dX5_happens_170 : decode cX5_happens 170 = .ok (.iload_n 3, 1) := by decide +kernel
theorem dX5_happens_171 : decode cX5_happens 171 = .ok (.iconst 0, 1) := by decide +kernel
theorem dX5_happens_172 : decode cX5_happens 172 = .ok (.iastore, 1) := by decide +kernel
theorem dX5_happens_173 : decode cX5_happens 173 = .ok (.goto 35, 3) := by decide +kernel
theorem dX5_happens_176 : decode cX5_happens 176 = .ok (.aload_n 0, 1) := by decide +kernel
theorem dX5_happens_177 : decode cX5_happens 177 = .ok (.getfield 37, 3) := by decide +kernel
theorem dX5_happens_180 : decode cX5_happens 180 = .ok (.iload_n 3, 1) := by decide +kernel
theorem dX5_happens_181 : decode cX5_happens 181 = .ok (.iaload, 1) := by decide +kernel
theorem dX5_happens_182 : decode cX5_happens 182 = .ok (.bipush 7, 2) := by decide +kernel
theorem dX5_happens_184 : decode cX5_happens 184 = .ok (.iload 4, 2) := by decide +kernel
theorem dX5_happens_186 : decode cX5_happens 186 = .ok (.isub, 1) := by decide +kernel
theorem dX5_happens_187 : decode cX5_happens 187 = .ok (.if_icmp .ne 13, 3) := by decide +kernel
theorem dX5_happens_190 : decode cX5_happens 190 = .ok (.aload_n 0, 1) := by decide +kernel
theorem dX5_happens_191 : decode cX5_happens 191 = .ok (.iload_n 1, 1) := by decide +kernel
theorem dX5_happens_192 : decode cX5_happens 192 = .ok (.iconst 5, 1) := by decide +kernel
theorem dX5_happens_193 : decode cX5_happens 193 = .ok (.iload_n 3, 1) := by decide +kernel
theorem dX5_happens_194 : decode cX5_happens 194 = .ok (.bipush (-5), 2) := by decide +kernel
theorem dX5_happens_196 : decode cX5_happens 196 = .ok (.iload_n 2, 1) := by decide +kernel
theorem dX5_happens_197 : decode cX5_happens 197 = .ok (.invokevirtual 85, 3) := by decide +kernel
theorem dX5_happens_200 : decode cX5_happens 200 = .ok (.aload_n 0, 1) := by decide +kernel
theorem dX5_happens_201 : decode cX5_happens 201 = .ok (.getfield 37, 3) := by decide +kernel
theorem dX5_happens_204 : decode cX5_happens 204 = .ok (.iload_n 3, 1) := by decide +kernel
theorem dX5_happens_205 : decode cX5_happens 205 = .ok (.iload 4, 2) := by decide +kernel
theorem dX5_happens_207 : decode cX5_happens 207 = .ok (.iastore, 1) := by decide +kernel
theorem dX5_happens_208 : decode cX5_happens 208 = .ok (.return_, 1) := by decide +kernel
set_option maxRecDepth 20000 in
theorem ggX5_hasEvent_X5_of : GoodIn wsX5_hasEvent wsX5_of := goodIn_r _ [5, 6, 11, 12, 13, 14, 15, 16, 17, 18, 19, 20, 21, 22, 23, 24, 25, 26, 27, 28] (by decide +kernel) (by decide +kernel)
set_option maxRecDepth 20000 in
theorem gX5_hasEvent_X5_of : GoodIn wsX5_hasEvent (wsV RX5 63 RX5 yX5_of wsX5_of) := goodIn_app (goodIn_of _ (by decide +kernel)) ggX5_hasEvent_X5_of
set_option maxRecDepth 20000 in
theorem ggX5_hasEvent_X5_eventOf : GoodIn wsX5_hasEvent wsX5_eventOf := goodIn_r _ [10, 1, 2, 3, 4, 5, 6, 11, 12, 13, 14, 15, 16, 17, 18, 19, 20, 21, 22, 23, 24, 25, 26, 27, 28] (by decide +kernel) (by decide +kernel)
set_option maxRecDepth 20000 in
theorem gX5_hasEvent_X5_eventOf : GoodIn wsX5_hasEvent (wsV RX5 81 RX5 yX5_eventOf wsX5_eventOf) := goodIn_app (goodIn_of _ (by decide +kernel)) ggX5_hasEvent_X5_eventOf
theorem dX5_hasEvent_0 : decode cX5_hasEvent 0 = .ok (.iconst 0, 1) := by decide +kernel
theorem dX5_hasEvent_1 : decode cX5_hasEvent 1 = .ok (.istore 4, 2) := by decide +kernel
theorem dX5_hasEvent_3 : decode cX5_hasEvent 3 = .ok (.iconst 0, 1) := by decide +kernel
theorem dX5_hasEvent_4 : decode cX5_hasEvent 4 = .ok (.istore 5, 2) := by decide +kernel
theorem dX5_hasEvent_6 : decode cX5_hasEvent 6 = .ok (.iload 5, 2) := by decide +kernel
theorem dX5_hasEvent_8 : decode cX5_hasEvent 8 = .ok (.aload_n 0, 1) := by decide +kernel
theorem dX5_hasEvent_9 : decode cX5_hasEvent 9 = .ok (.iload_n 1, 1) := by decide +kernel
theorem dX5_hasEvent_10 : decode cX5_hasEvent 10 = .ok (.iconst 3, 1) := by decide +kernel
theorem dX5_hasEvent_11 : decode cX5_hasEvent 11 = .ok (.invokevirtual 63, 3) := by decide +kernel
theorem dX5_hasEvent_14 : decode cX5_hasEvent 14 = .ok (.if_icmp .ge 51, 3) := by decide +kernel
theorem dX5_hasEvent_17 : decode cX5_hasEvent 17 = .ok (.iload 4, 2) := by decide +kernel
theorem dX5_hasEvent_19 : decode cX5_hasEvent 19 = .ok (.ifCond .ne 33, 3) := by decide +kernel
theorem dX5_hasEvent_22 : decode cX5_hasEvent 22 = .ok (.aload_n 0, 1) := by decide +kernel
theorem dX5_hasEvent_23 : decode cX5_hasEvent 23 = .ok (.iload_n 1, 1) := by decide +kernel
theorem dX5_hasEvent_24 : decode cX5_hasEvent 24 = .ok (.iload 5, 2) := by decide +kernel
theorem dX5_hasEvent_26 : decode cX5_hasEvent 26 = .ok (.iconst 0, 1) := by decide +kernel
theorem dX5_hasEvent_27 : decode cX5_hasEvent 27 = .ok (.invokevirtual 81, 3) := by decide +kernel
theorem dX5_hasEvent_30 : decode cX5_hasEvent 30 = .ok (.iload_n 2, 1) := by decide +kernel
theorem dX5_hasEvent_31 : decode cX5_hasEvent 31 = .ok (.if_icmp .ne 25, 3) := by decide +kernel
theorem dX5_hasEvent_34 : decode cX5_hasEvent 34 = .ok (.iload_n 3, 1) := by decide +kernel
theorem dX5_hasEvent_35 : decode cX5_hasEvent 35 = .ok (.bipush (-5), 2) := by decide +kernel
theorem dX5_hasEvent_37 : decode cX5_hasEvent 37 = .ok (.if_icmp .eq 15, 3) := by decide +kernel
theorem dX5_hasEvent_40 : decode cX5_hasEvent 40 = .ok (.aload_n 0, 1) := by decide +kernel
theorem dX5_hasEvent_41 : decode cX5_hasEvent 41 = .ok (.iload_n 1, 1) := by decide +kernel
theorem dX5_hasEvent_42 : decode cX5_hasEvent 42 = .ok (.iload 5, 2) := by decide +kernel
theorem dX5_hasEvent_44 : decode cX5_hasEvent 44 = .ok (.iconst 2, 1) := by decide +kernel
theorem dX5_hasEvent_45 : decode cX5_hasEvent 45 = .ok (.invokevirtual 81, 3) := by decide +kernel
theorem dX5_hasEvent_48 : decode cX5_hasEvent 48 = .ok (.iload_n 3, 1) := by decide +kernel
theorem dX5_hasEvent_49 : decode cX5_hasEvent 49 = .ok (.if_icmp .ne 7, 3) := by decide +kernel
theorem dX5_hasEvent_52 : decode cX5_hasEvent 52 = .ok (.iconst 1, 1) := by decide +kernel
theorem dX5_hasEvent_53 : decode cX5_hasEvent 53 = .ok (.goto 4, 3) := by decide +kernel
theorem dX5_hasEvent_56 : decode cX5_hasEvent 56 = .ok (.iconst 0, 1) := by decide +kernel
theorem dX5_hasEvent_57 : decode cX5_hasEvent 57 = .ok (.istore 4, 2) := by decide +kernel
theorem dX5_hasEvent_59 : decode cX5_hasEvent 59 = .ok (.iinc 5 1, 3) := by decide +kernel
theorem dX5_hasEvent_62 : decode cX5_hasEvent 62 = .ok (.goto (-56), 3) := by decide +kernel
theorem dX5_hasEvent_65 : decode cX5_hasEvent 65 = .ok (.iload 4, 2) := by decide +kernel
theorem dX5_hasEvent_67 : decode cX5_hasEvent 67 = .ok (.ireturn, 1) := by decide +kernel
set_option maxRecDepth 20000 in
theorem ggX5_shows_X5_hasEvent : GoodIn wsX5_shows wsX5_hasEvent := goodIn_r _ [6, 7, 8, 9, 5, 10, 11, 12, 13, 14, 15, 22, 23, 24, 25, 26, 27, 28, 29, 30, 31, 32, 33, 34, 35, 36, 37, 38, 39] (by decide +kernel) (by decide +kernel)
set_option maxRecDepth 20000 in
theorem gX5_shows_X5_hasEvent : GoodIn wsX5_shows (wsV RX5 88 RX5 yX5_hasEvent wsX5_hasEvent) := goodIn_app (goodIn_of _ (by decide +kernel)) ggX5_shows_X5_hasEvent
set_option maxRecDepth 20000 in
theorem ggX5_shows_X5_breaks : GoodIn wsX5_shows wsX5_breaks := goodIn_r _ [19, 20, 21, 7, 8, 9, 5, 10, 11, 22, 23, 24, 25, 26, 27, 28, 29, 30, 31, 32, 33, 34, 35, 36, 37, 38, 39] (by decide +kernel) (by decide +kernel)
set_option maxRecDepth 20000 in
theorem gX5_shows_X5_breaks : GoodIn wsX5_shows (wsV RX5 85 RX5 yX5_breaks wsX5_breaks) := goodIn_app (goodIn_of _ (by decide +kernel)) ggX5_shows_X5_breaks
theorem dX5_shows_0 : decode cX5_shows 0 = .ok (.iconst 0, 1) := by decide +kernel
theorem dX5_shows_1 : decode cX5_shows 1 = .ok (.istore_n 2, 1) := by decide +kernel
theorem dX5_shows_2 : decode cX5_shows 2 = .ok (.iload_n 2, 1) := by decide +kernel
theorem dX5_shows_3 : decode cX5_shows 3 = .ok (.iconst 4, 1) := by decide +kernel
theorem dX5_shows_4 : decode cX5_shows 4 = .ok (.if_icmp .ge 64, 3) := by decide +kernel
theorem dX5_shows_7 : decode cX5_shows 7 = .ok (.iconst 0, 1) := by decide +kernel
theorem dX5_shows_8 : decode cX5_shows 8 = .ok (.istore_n 3, 1) := by decide +kernel
theorem dX5_shows_9 : decode cX5_shows 9 = .ok (.iload_n 3, 1) := by decide +kernel
theorem dX5_shows_10 : decode cX5_shows 10 = .ok (.bipush 10, 2) := by decide +kernel
theorem dX5_shows_12 : decode cX5_shows 12 = .ok (.if_icmp .ge 50, 3) := by decide +kernel
theorem dX5_shows_15 : decode cX5_shows 15 = .ok (.aload_n 0, 1) := by decide +kernel
theorem dX5_shows_16 : decode cX5_shows 16 = .ok (.iload_n 1, 1) := by decide +kernel
theorem dX5_shows_17 : decode cX5_shows 17 = .ok (.iload_n 2, 1) := by decide +kernel
theorem dX5_shows_18 : decode cX5_shows 18 = .ok (.bipush (-5), 2) := by decide +kernel
theorem dX5_shows_20 : decode cX5_shows 20 = .ok (.invokevirtual 88, 3) := by decide +kernel
theorem dX5_shows_23 : decode cX5_shows 23 = .ok (.ifCond .eq 33, 3) := by decide +kernel
theorem dX5_shows_26 : decode cX5_shows 26 = .ok (.aload_n 0, 1) := by decide +kernel
theorem dX5_shows_27 : decode cX5_shows 27 = .ok (.getfield 34, 3) := by decide +kernel
theorem dX5_shows_30 : decode cX5_shows 30 = .ok (.iload_n 3, 1) := by decide +kernel
theorem dX5_shows_31 : decode cX5_shows 31 = .ok (.iaload, 1) := by decide +kernel
theorem dX5_shows_32 : decode cX5_shows 32 = .ok (.iload_n 2, 1) := by decide +kernel
theorem dX5_shows_33 : decode cX5_shows 33 = .ok (.if_icmp .ne 23, 3) := by decide +kernel
theorem dX5_shows_36 : decode cX5_shows 36 = .ok (.aload_n 0, 1) := by decide +kernel
theorem dX5_shows_37 : decode cX5_shows 37 = .ok (.iload_n 1, 1) := by decide +kernel
theorem dX5_shows_38 : decode cX5_shows 38 = .ok (.iload_n 2, 1) := by decide +kernel
theorem dX5_shows_39 : decode cX5_shows 39 = .ok (.iload_n 3, 1) := by decide +kernel
theorem dX5_shows_40 : decode cX5_shows 40 = .ok (.invokevirtual 88, 3) := by decide +kernel
theorem dX5_shows_43 : decode cX5_shows 43 = .ok (.ifCond .ne 13, 3) := by decide +kernel
theorem dX5_shows_46 : decode cX5_shows 46 = .ok (.aload_n 0, 1) := by decide +kernel
theorem dX5_shows_47 : decode cX5_shows 47 = .ok (.iload_n 1, 1) := by decide +kernel
theorem dX5_shows_48 : decode cX5_shows 48 = .ok (.iconst 4, 1) := by decide +kernel
theorem dX5_shows_49 : decode cX5_shows 49 = .ok (.iload_n 2, 1) := by decide +kernel
theorem dX5_shows_50 : decode cX5_shows 50 = .ok (.iload_n 3, 1) := by decide +kernel
theorem dX5_shows_51 : decode cX5_shows 51 = .ok (.bipush (-5), 2) := by decide +kernel
theorem dX5_shows_53 : decode cX5_shows 53 = .ok (.invokevirtual 85, 3) := by decide +kernel
theorem dX5_shows_56 : decode cX5_shows 56 = .ok (.iinc 3 1, 3) := by decide +kernel
theorem dX5_shows_59 : decode cX5_shows 59 = .ok (.goto (-50), 3) := by decide +kernel
theorem dX5_shows_62 : decode cX5_shows 62 = .ok (.iinc 2 1, 3) := by decide +kernel
theorem dX5_shows_65 : decode cX5_shows 65 = .ok (.goto (-63), 3) := by decide +kernel
theorem dX5_shows_68 : decode cX5_shows 68 = .ok (.return_, 1) := by decide +kernel
set_option maxRecDepth 20000 in
theorem ggX5_goesThrough_X5_findsOrder : GoodIn wsX5_goesThrough wsX5_findsOrder := goodIn_r _ [11, 3, 4, 12, 13, 14, 10, 15, 37, 38, 39, 40, 41, 42, 43, 44, 45, 46, 47, 48, 49, 50, 51, 52, 53, 54] (by decide +kernel) (by decide +kernel)
set_option maxRecDepth 20000 in
theorem gX5_goesThrough_X5_findsOrder : GoodIn wsX5_goesThrough (wsV RX5 92 RX5 yX5_findsOrder wsX5_findsOrder) := goodIn_app (goodIn_of _ (by decide +kernel)) ggX5_goesThrough_X5_findsOrder
set_option maxRecDepth 20000 in
theorem ggX5_goesThrough_X5_of : GoodIn wsX5_goesThrough wsX5_of := goodIn_r _ [15, 3, 37, 38, 39, 40, 41, 42, 43, 44, 45, 46, 47, 48, 49, 50, 51, 52, 53, 54] (by decide +kernel) (by decide +kernel)
set_option maxRecDepth 20000 in
theorem gX5_goesThrough_X5_of : GoodIn wsX5_goesThrough (wsV RX5 63 RX5 yX5_of wsX5_of) := goodIn_app (goodIn_of _ (by decide +kernel)) ggX5_goesThrough_X5_of
set_option maxRecDepth 20000 in
theorem ggX5_goesThrough_X5_happens : GoodIn wsX5_goesThrough wsX5_happens := goodIn_r _ [19, 2, 5, 20, 21, 22, 10, 23, 12, 13, 14, 15, 3, 24, 25, 26, 27, 1, 28, 37, 38, 39, 40, 41, 42, 43, 44, 45, 46, 47, 48, 49, 50, 51, 52, 53, 54] (by decide +kernel) (by decide +kernel)
set_option maxRecDepth 20000 in
theorem gX5_goesThrough_X5_happens : GoodIn wsX5_goesThrough (wsV RX5 95 RX5 yX5_happens wsX5_happens) := goodIn_app (goodIn_of _ (by decide +kernel)) ggX5_goesThrough_X5_happens
set_option maxRecDepth 20000 in
theorem ggX5_goesThrough_X5_shows : GoodIn wsX5_goesThrough wsX5_shows := goodIn_r _ [32, 2, 33, 34, 35, 10, 36, 12, 13, 14, 15, 3, 20, 21, 22, 23, 24, 25, 26, 27, 1, 28, 37, 38, 39, 40, 41, 42, 43, 44, 45, 46, 47, 48, 49, 50, 51, 52, 53, 54] (by decide +kernel) (by decide +kernel)
set_option maxRecDepth 20000 in
theorem gX5_goesThrough_X5_shows : GoodIn wsX5_goesThrough (wsV RX5 99 RX5 yX5_shows wsX5_shows) := goodIn_app (goodIn_of _ (by decide +kernel)) ggX5_goesThrough_X5_shows
theorem dX5_goesThrough_0 : decode cX5_goesThrough 0 = .ok (.aload_n 0, 1) := by decide +kernel
theorem dX5_goesThrough_1 : decode cX5_goesThrough 1 = .ok (.invokevirtual 92, 3) := by decide +kernel
theorem dX5_goesThrough_4 : decode cX5_goesThrough 4 = .ok (.aload_n 0, 1) := by decide +kernel
theorem dX5_goesThrough_5 : decode cX5_goesThrough 5 = .ok (.iconst 0, 1) := by decide +kernel
theorem dX5_goesThrough_6 : decode cX5_goesThrough 6 = .ok (.putfield 78, 3) := by decide +kernel
theorem dX5_goesThrough_9 : decode cX5_goesThrough 9 = .ok (.iconst 0, 1) := by decide +kernel
theorem dX5_goesThrough_10 : decode cX5_goesThrough 10 = .ok (.istore_n 1, 1) := by decide +kernel
theorem dX5_goesThrough_11 : decode cX5_goesThrough 11 = .ok (.iload_n 1, 1) := by decide +kernel
theorem dX5_goesThrough_12 : decode cX5_goesThrough 12 = .ok (.bipush 10, 2) := by decide +kernel
theorem dX5_goesThrough_14 : decode cX5_goesThrough 14 = .ok (.if_icmp .ge 17, 3) := by decide +kernel
theorem dX5_goesThrough_17 : decode cX5_goesThrough 17 = .ok (.aload_n 0, 1) := by decide +kernel
theorem dX5_goesThrough_18 : decode cX5_goesThrough 18 = .ok (.getfield 34, 3) := by decide +kernel
theorem dX5_goesThrough_21 : decode cX5_goesThrough 21 = .ok (.iload_n 1, 1) := by decide +kernel
theorem dX5_goesThrough_22 : decode cX5_goesThrough 22 = .ok (.bipush (-5), 2) := by decide +kernel
theorem dX5_goesThrough_24 : decode cX5_goesThrough 24 = .ok (.iastore, 1) := by decide +kernel
theorem dX5_goesThrough_25 : decode cX5_goesThrough 25 = .ok (.iinc 1 1, 3) := by decide +kernel
theorem dX5_goesThrough_28 : decode cX5_goesThrough 28 = .ok (.goto (-17), 3) := by decide +kernel
theorem dX5_goesThrough_31 : decode cX5_goesThrough 31 = .ok (.iconst 0, 1) := by decide +kernel
theorem dX5_goesThrough_32 : decode cX5_goesThrough 32 = .ok (.istore_n 1, 1) := by decide +kernel
theorem dX5_goesThrough_33 : decode cX5_goesThrough 33 = .ok (.iload_n 1, 1) := by decide +kernel
theorem dX5_goesThrough_34 : decode cX5_goesThrough 34 = .ok (.aload_n 0, 1) := by decide +kernel
theorem dX5_goesThrough_35 : decode cX5_goesThrough 35 = .ok (.getfield 7, 3) := by decide +kernel
theorem dX5_goesThrough_38 : decode cX5_goesThrough 38 = .ok (.iconst 1, 1) := by decide +kernel
theorem dX5_goesThrough_39 : decode cX5_goesThrough 39 = .ok (.iaload, 1) := by decide +kernel
theorem dX5_goesThrough_40 : decode cX5_goesThrough 40 = .ok (.if_icmp .ge 122, 3) := by decide +kernel
theorem dX5_goesThrough_43 : decode cX5_goesThrough 43 = .ok (.aload_n 0, 1) := by decide +kernel
theorem dX5_goesThrough_44 : decode cX5_goesThrough 44 = .ok (.getfield 28, 3) := by decide +kernel
theorem dX5_goesThrough_47 : decode cX5_goesThrough 47 = .ok (.iload_n 1, 1) := by decide +kernel
theorem dX5_goesThrough_48 : decode cX5_goesThrough 48 = .ok (.iaload, 1) := by decide +kernel
theorem dX5_goesThrough_49 : decode cX5_goesThrough 49 = .ok (.istore_n 2, 1) := by decide +kernel
theorem dX5_goesThrough_50 : decode cX5_goesThrough 50 = .ok (.iload_n 1, 1) := by decide +kernel
theorem dX5_goesThrough_51 : decode cX5_goesThrough 51 = .ok (.ifCond .eq 25, 3) := by decide +kernel
theorem dX5_goesThrough_54 : decode cX5_goesThrough 54 = .ok (.aload_n 0, 1) := by decide +kernel
theorem dX5_goesThrough_55 : decode cX5_goesThrough 55 = .ok (.iload_n 2, 1) := by decide +kernel
theorem dX5_goesThrough_56 : decode cX5_goesThrough 56 = .ok (.iconst 1, 1) := by decide +kernel
theorem dX5_goesThrough_57 : decode cX5_goesThrough 57 = .ok (.invokevirtual 63, 3) := by decide +kernel
theorem dX5_goesThrough_60 : decode cX5_goesThrough 60 = .ok (.aload_n 0, 1) := by decide +kernel
theorem dX5_goesThrough_61 : decode cX5_goesThrough 61 = .ok (.aload_n 0, 1) := by decide +kernel
theorem dX5_goesThrough_62 : decode cX5_goesThrough 62 = .ok (.getfield 28, 3) := by decide +kernel
theorem dX5_goesThrough_65 : decode cX5_goesThrough 65 = .ok (.iload_n 1, 1) := by decide +kernel
theorem dX5_goesThrough_66 : decode cX5_goesThrough 66 = .ok (.iconst 1, 1) := by decide +kernel
theorem dX5_goesThrough_67 : decode cX5_goesThrough 67 = .ok (.isub, 1) := by decide +kernel
theorem dX5_goesThrough_68 : decode cX5_goesThrough 68 = .ok (.iaload, 1) := by decide +kernel
theorem dX5_goesThrough_69 : decode cX5_goesThrough 69 = .ok (.iconst 1, 1) := by decide +kernel
theorem dX5_goesThrough_70 : decode cX5_goesThrough 70 = .ok (.invokevirtual 63, 3) := by decide +kernel
theorem dX5_goesThrough_73 : decode cX5_goesThrough 73 = .ok (.if_icmp .eq 23, 3) := by decide +kernel
theorem dX5_goesThrough_76 : decode cX5_goesThrough 76 = .ok (.iconst 0, 1) := by decide +kernel
theorem dX5_goesThrough_77 : decode cX5_goesThrough 77 = .ok (.istore_n 3, 1) := by decide +kernel
theorem dX5_goesThrough_78 : decode cX5_goesThrough 78 = .ok (.iload_n 3, 1) := by decide +kernel
theorem dX5_goesThrough_79 : decode cX5_goesThrough 79 = .ok (.iconst 4, 1) := by decide +kernel
theorem dX5_goesThrough_80 : decode cX5_goesThrough 80 = .ok (.if_icmp .ge 16, 3) := by decide +kernel
theorem dX5_goesThrough_83 : decode cX5_goesThrough 83 = .ok (.aload_n 0, 1) := by decide +kernel
theorem dX5_goesThrough_84 : decode cX5_goesThrough 84 = .ok (.getfield 37, 3) := by decide +kernel
theorem dX5_goesThrough_87 : decode cX5_goesThrough 87 = .ok (.iload_n 3, 1) := by decide +kernel
theorem dX5_goesThrough_88 : decode cX5_goesThrough 88 = .ok (.iconst 0, 1) := by decide +kernel
theorem dX5_goesThrough_89 : decode cX5_goesThrough 89 = .ok (.iastore, 1) := by decide +kernel
theorem dX5_goesThrough_90 : decode cX5_goesThrough 90 = .ok (.iinc 3 1, 3) := by decide +kernel
theorem dX5_goesThrough_93 : decode cX5_goesThrough 93 = .ok (.goto (-15), 3) := by decide +kernel
theorem dX5_goesThrough_96 : decode cX5_goesThrough 96 = .ok (.iconst 0, 1) := by decide +kernel
theorem dX5_goesThrough_97 : decode cX5_goesThrough 97 = .ok (.istore_n 3, 1) := by decide +kernel
theorem dX5_goesThrough_98 : decode cX5_goesThrough 98 = .ok (.iload_n 3, 1) := by decide +kernel
theorem dX5_goesThrough_99 : decode cX5_goesThrough 99 = .ok (.aload_n 0, 1) := by decide +kernel
theorem dX5_goesThrough_100 : decode cX5_goesThrough 100 = .ok (.iload_n 2, 1) := by decide +kernel
theorem dX5_goesThrough_101 : decode cX5_goesThrough 101 = .ok (.iconst 3, 1) := by decide +kernel
theorem dX5_goesThrough_102 : decode cX5_goesThrough 102 = .ok (.invokevirtual 63, 3) := by decide +kernel
theorem dX5_goesThrough_105 : decode cX5_goesThrough 105 = .ok (.if_icmp .ge 15, 3) := by decide +kernel
theorem dX5_goesThrough_108 : decode cX5_goesThrough 108 = .ok (.aload_n 0, 1) := by decide +kernel
theorem dX5_goesThrough_109 : decode cX5_goesThrough 109 = .ok (.iload_n 2, 1) := by decide +kernel
theorem dX5_goesThrough_110 : decode cX5_goesThrough 110 = .ok (.iload_n 3, 1) := by decide +kernel
theorem dX5_goesThrough_111 : decode cX5_goesThrough 111 = .ok (.invokevirtual 95, 3) := by decide +kernel
theorem dX5_goesThrough_114 : decode cX5_goesThrough 114 = .ok (.iinc 3 1, 3) := by decide +kernel
theorem dX5_goesThrough_117 : decode cX5_goesThrough 117 = .ok (.goto (-19), 3) := by decide +kernel
theorem dX5_goesThrough_120 : decode cX5_goesThrough 120 = .ok (.aload_n 0, 1) := by decide +kernel
theorem dX5_goesThrough_121 : decode cX5_goesThrough 121 = .ok (.iload_n 2, 1) := by decide +kernel
theorem dX5_goesThrough_122 : decode cX5_goesThrough 122 = .ok (.invokevirtual 99, 3) := by decide +kernel
theorem dX5_goesThrough_125 : decode cX5_goesThrough 125 = .ok (.iconst 0, 1) := by decide +kernel
theorem dX5_goesThrough_126 : decode cX5_goesThrough 126 = .ok (.istore_n 3, 1) := by decide +kernel
theorem dX5_goesThrough_127 : decode cX5_goesThrough 127 = .ok (.iload_n 3, 1) := by decide +kernel
theorem dX5_goesThrough_128 : decode cX5_goesThrough 128 = .ok (.bipush 10, 2) := by decide +kernel
theorem dX5_goesThrough_130 : decode cX5_goesThrough 130 = .ok (.if_icmp .ge 26, 3) := by decide +kernel
theorem dX5_goesThrough_133 : decode cX5_goesThrough 133 = .ok (.aload_n 0, 1) := by decide +kernel
theorem dX5_goesThrough_134 : decode cX5_goesThrough 134 = .ok (.getfield 40, 3) := by decide +kernel
theorem dX5_goesThrough_137 : decode cX5_goesThrough 137 = .ok (.bipush 10, 2) := by decide +kernel
theorem dX5_goesThrough_139 : decode cX5_goesThrough 139 = .ok (.iload_n 1, 1) := by decide +kernel
theorem dX5_goesThrough_140 : decode cX5_goesThrough 140 = .ok (.imul, 1) := by decide +kernel
theorem dX5_goesThrough_141 : decode cX5_goesThrough 141 = .ok (.iload_n 3, 1) := by decide +kernel
theorem dX5_goesThrough_142 : decode cX5_goesThrough 142 = .ok (.iadd, 1) := by decide +kernel
theorem dX5_goesThrough_143 : decode cX5_goesThrough 143 = .ok (.aload_n 0, 1) := by decide +kernel
theorem dX5_goesThrough_144 : decode cX5_goesThrough 144 = .ok (.getfield 34, 3) := by decide +kernel
theorem dX5_goesThrough_147 : decode cX5_goesThrough 147 = .ok (.iload_n 3, 1) := by decide +kernel
theorem dX5_goesThrough_148 : decode cX5_goesThrough 148 = .ok (.iaload, 1) := by decide +kernel
theorem dX5_goesThrough_149 : decode cX5_goesThrough 149 = .ok (.iastore, 1) := by decide +kernel
theorem dX5_goesThrough_150 : decode cX5_goesThrough 150 = .ok (.iinc 3 1, 3) := by decide +kernel
theorem dX5_goesThrough_153 : decode cX5_goesThrough 153 = .ok (.goto (-26), 3) := by decide +kernel
theorem dX5_goesThrough_156 : decode cX5_goesThrough 156 = .ok (.iinc 1 1, 3) := by decide +kernel
theorem dX5_goesThrough_159 : decode cX5_goesThrough 159 = .ok (.goto (-126), 3) := by decide +kernel
theorem dX5_goesThrough_162 : decode cX5_goesThrough 162 = .ok (.return_, 1) := by decide +kernel
set_option maxRecDepth 20000 in
theorem ggX5_breaksNow_X5_goesThrough : GoodIn wsX5_breaksNow wsX5_goesThrough := goodIn_r _ [6, 1, 7, 8, 9, 10, 11, 12, 13, 14, 5, 15, 16, 17, 18, 19, 20, 21, 22, 23, 24, 25, 26, 27, 28, 29, 30, 31, 32, 33, 34, 35, 36, 37, 38, 39, 40, 41, 42, 43, 44, 45, 46, 47, 48, 49, 50, 51, 52, 53, 54, 55, 56, 57, 58] (by decide +kernel) (by decide +kernel)
set_option maxRecDepth 20000 in
theorem gX5_breaksNow_X5_goesThrough : GoodIn wsX5_breaksNow (wsV RX5 102 RX5 yX5_goesThrough wsX5_goesThrough) := goodIn_app (goodIn_of _ (by decide +kernel)) ggX5_breaksNow_X5_goesThrough
theorem dX5_breaksNow_0 : decode cX5_breaksNow 0 = .ok (.aload_n 0, 1) := by decide +kernel
theorem dX5_breaksNow_1 : decode cX5_breaksNow 1 = .ok (.invokevirtual 102, 3) := by decide +kernel
theorem dX5_breaksNow_4 : decode cX5_breaksNow 4 = .ok (.aload_n 0, 1) := by decide +kernel
theorem dX5_breaksNow_5 : decode cX5_breaksNow 5 = .ok (.getfield 78, 3) := by decide +kernel
theorem dX5_breaksNow_8 : decode cX5_breaksNow 8 = .ok (.ireturn, 1) := by decide +kernel
set_option maxRecDepth 20000 in
theorem ggX5_breaksIfMoved_X5_copy : GoodIn wsX5_breaksIfMoved wsX5_copy := goodIn_r _ [6] (by decide +kernel) (by decide +kernel)
set_option maxRecDepth 20000 in
theorem gX5_breaksIfMoved_X5_copy : GoodIn wsX5_breaksIfMoved (va_wsS RX5 49 yX5_copy wsX5_copy) := goodIn_app (goodIn_of _ (by decide +kernel)) ggX5_breaksIfMoved_X5_copy
set_option maxRecDepth 20000 in
theorem ggX5_breaksIfMoved_X5_moves : GoodIn wsX5_breaksIfMoved wsX5_moves := goodIn_r _ [10, 11, 12, 13, 14, 5, 15, 1, 16, 17, 18, 19, 20, 21, 22, 23, 24, 25, 26, 27, 66, 67, 68, 69, 70, 71, 72, 73, 74, 75, 76, 77, 78, 79, 80, 81, 82, 83] (by decide +kernel) (by decide +kernel)
set_option maxRecDepth 20000 in
theorem gX5_breaksIfMoved_X5_moves : GoodIn wsX5_breaksIfMoved (wsV RX5 105 RX5 yX5_moves wsX5_moves) := goodIn_app (goodIn_of _ (by decide +kernel)) ggX5_breaksIfMoved_X5_moves
set_option maxRecDepth 20000 in
theorem ggX5_breaksIfMoved_X5_breaksNow : GoodIn wsX5_breaksIfMoved wsX5_breaksNow := goodIn_r _ [31, 32, 33, 34, 35, 5, 36, 37, 1, 38, 39, 40, 41, 42, 43, 44, 16, 17, 18, 19, 45, 46, 47, 48, 49, 50, 51, 52, 53, 54, 55, 56, 57, 58, 59, 60, 61, 62, 63, 64, 65, 66, 67, 68, 69, 70, 71, 72, 73, 74, 75, 76, 77, 78, 79, 80, 81, 82, 83] (by decide +kernel) (by decide +kernel)
set_option maxRecDepth 20000 in
theorem gX5_breaksIfMoved_X5_breaksNow : GoodIn wsX5_breaksIfMoved (wsV RX5 109 RX5 yX5_breaksNow wsX5_breaksNow) := goodIn_app (goodIn_of _ (by decide +kernel)) ggX5_breaksIfMoved_X5_breaksNow
theorem dX5_breaksIfMoved_0 : decode cX5_breaksIfMoved 0 = .ok (.aload_n 0, 1) := by decide +kernel
theorem dX5_breaksIfMoved_1 : decode cX5_breaksIfMoved 1 = .ok (.getfield 7, 3) := by decide +kernel
theorem dX5_breaksIfMoved_4 : decode cX5_breaksIfMoved 4 = .ok (.aload_n 0, 1) := by decide +kernel
theorem dX5_breaksIfMoved_5 : decode cX5_breaksIfMoved 5 = .ok (.getfield 16, 3) := by decide +kernel
theorem dX5_breaksIfMoved_8 : decode cX5_breaksIfMoved 8 = .ok (.invokestatic 49, 3) := by decide +kernel
theorem dX5_breaksIfMoved_11 : decode cX5_breaksIfMoved 11 = .ok (.aload_n 0, 1) := by decide +kernel
theorem dX5_breaksIfMoved_12 : decode cX5_breaksIfMoved 12 = .ok (.iload_n 1, 1) := by decide +kernel
theorem dX5_breaksIfMoved_13 : decode cX5_breaksIfMoved 13 = .ok (.iload_n 2, 1) := by decide +kernel
theorem dX5_breaksIfMoved_14 : decode cX5_breaksIfMoved 14 = .ok (.iload_n 3, 1) := by decide +kernel
theorem dX5_breaksIfMoved_15 : decode cX5_breaksIfMoved 15 = .ok (.invokevirtual 105, 3) := by decide +kernel
theorem dX5_breaksIfMoved_18 : decode cX5_breaksIfMoved 18 = .ok (.aload_n 0, 1) := by decide +kernel
theorem dX5_breaksIfMoved_19 : decode cX5_breaksIfMoved 19 = .ok (.invokevirtual 109, 3) := by decide +kernel
theorem dX5_breaksIfMoved_22 : decode cX5_breaksIfMoved 22 = .ok (.istore 4, 2) := by decide +kernel
theorem dX5_breaksIfMoved_24 : decode cX5_breaksIfMoved 24 = .ok (.aload_n 0, 1) := by decide +kernel
theorem dX5_breaksIfMoved_25 : decode cX5_breaksIfMoved 25 = .ok (.getfield 16, 3) := by decide +kernel
theorem dX5_breaksIfMoved_28 : decode cX5_breaksIfMoved 28 = .ok (.aload_n 0, 1) := by decide +kernel
theorem dX5_breaksIfMoved_29 : decode cX5_breaksIfMoved 29 = .ok (.getfield 7, 3) := by decide +kernel
theorem dX5_breaksIfMoved_32 : decode cX5_breaksIfMoved 32 = .ok (.invokestatic 49, 3) := by decide +kernel
theorem dX5_breaksIfMoved_35 : decode cX5_breaksIfMoved 35 = .ok (.iload 4, 2) := by decide +kernel
theorem dX5_breaksIfMoved_37 : decode cX5_breaksIfMoved 37 = .ok (.ireturn, 1) := by decide +kernel
set_option maxRecDepth 20000 in
theorem ggX5_lastPlace_X5_panelsOf : GoodIn wsX5_lastPlace wsX5_panelsOf := goodIn_r _ [5, 6, 7, 8, 9, 4, 10, 11, 12, 13, 14, 15, 16, 17, 18, 19, 20, 21, 22, 23, 24, 25, 26, 27, 28] (by decide +kernel) (by decide +kernel)
set_option maxRecDepth 20000 in
theorem gX5_lastPlace_X5_panelsOf : GoodIn wsX5_lastPlace (wsV RX5 113 RX5 yX5_panelsOf wsX5_panelsOf) := goodIn_app (goodIn_of _ (by decide +kernel)) ggX5_lastPlace_X5_panelsOf
set_option maxRecDepth 20000 in
theorem ggX5_lastPlace_X5_of : GoodIn wsX5_lastPlace wsX5_of := goodIn_r _ [10, 6, 11, 12, 13, 14, 15, 16, 17, 18, 19, 20, 21, 22, 23, 24, 25, 26, 27, 28] (by decide +kernel) (by decide +kernel)
set_option maxRecDepth 20000 in
theorem gX5_lastPlace_X5_of : GoodIn wsX5_lastPlace (wsV RX5 63 RX5 yX5_of wsX5_of) := goodIn_app (goodIn_of _ (by decide +kernel)) ggX5_lastPlace_X5_of
theorem dX5_lastPlace_0 : decode cX5_lastPlace 0 = .ok (.aload_n 0, 1) := by decide +kernel
theorem dX5_lastPlace_1 : decode cX5_lastPlace 1 = .ok (.iload_n 2, 1) := by decide +kernel
theorem dX5_lastPlace_2 : decode cX5_lastPlace 2 = .ok (.invokevirtual 113, 3) := by decide +kernel
theorem dX5_lastPlace_5 : decode cX5_lastPlace 5 = .ok (.aload_n 0, 1) := by decide +kernel
theorem dX5_lastPlace_6 : decode cX5_lastPlace 6 = .ok (.iload_n 1, 1) := by decide +kernel
theorem dX5_lastPlace_7 : decode cX5_lastPlace 7 = .ok (.iconst 1, 1) := by decide +kernel
theorem dX5_lastPlace_8 : decode cX5_lastPlace 8 = .ok (.invokevirtual 63, 3) := by decide +kernel
theorem dX5_lastPlace_11 : decode cX5_lastPlace 11 = .ok (.iload_n 2, 1) := by decide +kernel
theorem dX5_lastPlace_12 : decode cX5_lastPlace 12 = .ok (.if_icmp .ne 7, 3) := by decide +kernel
theorem dX5_lastPlace_15 : decode cX5_lastPlace 15 = .ok (.iconst 1, 1) := by decide +kernel
theorem dX5_lastPlace_16 : decode cX5_lastPlace 16 = .ok (.goto 4, 3) := by decide +kernel
theorem dX5_lastPlace_19 : decode cX5_lastPlace 19 = .ok (.iconst 0, 1) := by decide +kernel
theorem dX5_lastPlace_20 : decode cX5_lastPlace 20 = .ok (.isub, 1) := by decide +kernel
theorem dX5_lastPlace_21 : decode cX5_lastPlace 21 = .ok (.ireturn, 1) := by decide +kernel
set_option maxRecDepth 20000 in
theorem ggX5_bestPlaceOf_X5_breaksIfMoved : GoodIn wsX5_bestPlaceOf wsX5_breaksIfMoved := goodIn_r _ [5, 6, 7, 8, 9, 4, 10, 11, 12, 13, 14, 15, 16, 17, 18, 19, 20, 21, 22, 23, 24, 25, 26, 27, 28, 29, 30, 31, 32, 33, 34, 35, 36, 37, 38, 39, 40, 41, 42, 43, 44, 45, 46, 47, 48, 49, 50, 51, 52, 53, 54, 55, 56, 57, 58, 59, 60, 61, 62, 63, 64, 65, 66, 67, 68, 69, 78, 79, 80, 81, 82, 83, 84, 85, 86, 87, 88, 89, 90, 91, 92, 93, 94, 95] (by decide +kernel) (by decide +kernel)
set_option maxRecDepth 20000 in
theorem gX5_bestPlaceOf_X5_breaksIfMoved : GoodIn wsX5_bestPlaceOf (wsV RX5 116 RX5 yX5_breaksIfMoved wsX5_breaksIfMoved) := goodIn_app (goodIn_of _ (by decide +kernel)) ggX5_bestPlaceOf_X5_breaksIfMoved
set_option maxRecDepth 20000 in
theorem ggX5_bestPlaceOf_X5_lieOf : GoodIn wsX5_bestPlaceOf wsX5_lieOf := goodIn_r _ [19, 6, 20, 21, 22, 4, 23, 78, 79, 80, 81, 82, 83, 84, 85, 86, 87, 88, 89, 90, 91, 92, 93, 94, 95] (by decide +kernel) (by decide +kernel)
set_option maxRecDepth 20000 in
theorem gX5_bestPlaceOf_X5_lieOf : GoodIn wsX5_bestPlaceOf (wsV RX5 67 RX5 yX5_lieOf wsX5_lieOf) := goodIn_app (goodIn_of _ (by decide +kernel)) ggX5_bestPlaceOf_X5_lieOf
set_option maxRecDepth 20000 in
theorem ggX5_bestPlaceOf_X5_lastPlace : GoodIn wsX5_bestPlaceOf wsX5_lastPlace := goodIn_r _ [73, 74, 75, 76, 4, 77, 6, 20, 21, 22, 23, 78, 79, 80, 81, 82, 83, 84, 85, 86, 87, 88, 89, 90, 91, 92, 93, 94, 95] (by decide +kernel) (by decide +kernel)
set_option maxRecDepth 20000 in
theorem gX5_bestPlaceOf_X5_lastPlace : GoodIn wsX5_bestPlaceOf (wsV RX5 119 RX5 yX5_lastPlace wsX5_lastPlace) := goodIn_app (goodIn_of _ (by decide +kernel)) ggX5_bestPlaceOf_X5_lastPlace
theorem dX5_bestPlaceOf_0 : decode cX5_bestPlaceOf 0 = .ok (.iconst 0, 1) := by decide +kernel
theorem dX5_bestPlaceOf_1 : decode cX5_bestPlaceOf 1 = .ok (.istore_n 3, 1) := by decide +kernel
theorem dX5_bestPlaceOf_2 : decode cX5_bestPlaceOf 2 = .ok (.aload_n 0, 1) := by decide +kernel
theorem dX5_bestPlaceOf_3 : decode cX5_bestPlaceOf 3 = .ok (.iload_n 1, 1) := by decide +kernel
theorem dX5_bestPlaceOf_4 : decode cX5_bestPlaceOf 4 = .ok (.iload_n 2, 1) := by decide +kernel
theorem dX5_bestPlaceOf_5 : decode cX5_bestPlaceOf 5 = .ok (.iconst 0, 1) := by decide +kernel
theorem dX5_bestPlaceOf_6 : decode cX5_bestPlaceOf 6 = .ok (.invokevirtual 116, 3) := by decide +kernel
theorem dX5_bestPlaceOf_9 : decode cX5_bestPlaceOf 9 = .ok (.istore 4, 2) := by decide +kernel
theorem dX5_bestPlaceOf_11 : decode cX5_bestPlaceOf 11 = .ok (.aload_n 0, 1) := by decide +kernel
theorem dX5_bestPlaceOf_12 : decode cX5_bestPlaceOf 12 = .ok (.aload_n 0, 1) := by decide +kernel
theorem dX5_bestPlaceOf_13 : decode cX5_bestPlaceOf 13 = .ok (.iload_n 1, 1) := by decide +kernel
theorem dX5_bestPlaceOf_14 : decode cX5_bestPlaceOf 14 = .ok (.invokevirtual 67, 3) := by decide +kernel
theorem dX5_bestPlaceOf_17 : decode cX5_bestPlaceOf 17 = .ok (.iload_n 2, 1) := by decide +kernel
theorem dX5_bestPlaceOf_18 : decode cX5_bestPlaceOf 18 = .ok (.invokevirtual 119, 3) := by decide +kernel
theorem dX5_bestPlaceOf_21 : decode cX5_bestPlaceOf 21 = .ok (.istore 5, 2) := by decide +kernel
theorem dX5_bestPlaceOf_23 : decode cX5_bestPlaceOf 23 = .ok (.iconst 1, 1) := by decide +kernel
theorem dX5_bestPlaceOf_24 : decode cX5_bestPlaceOf 24 = .ok (.istore 6, 2) := by decide +kernel
theorem dX5_bestPlaceOf_26 : decode cX5_bestPlaceOf 26 = .ok (.iload 6, 2) := by decide +kernel
theorem dX5_bestPlaceOf_28 : decode cX5_bestPlaceOf 28 = .ok (.iload 5, 2) := by decide +kernel
theorem dX5_bestPlaceOf_30 : decode cX5_bestPlaceOf 30 = .ok (.if_icmp .gt 49, 3) := by decide +kernel
theorem dX5_bestPlaceOf_33 : decode cX5_bestPlaceOf 33 = .ok (.aload_n 0, 1) := by decide +kernel
theorem dX5_bestPlaceOf_34 : decode cX5_bestPlaceOf 34 = .ok (.iload_n 1, 1) := by decide +kernel
theorem dX5_bestPlaceOf_35 : decode cX5_bestPlaceOf 35 = .ok (.iload_n 2, 1) := by decide +kernel
theorem dX5_bestPlaceOf_36 : decode cX5_bestPlaceOf 36 = .ok (.iload 6, 2) := by decide +kernel
theorem dX5_bestPlaceOf_38 : decode cX5_bestPlaceOf 38 = .ok (.invokevirtual 116, 3) := by decide +kernel
theorem dX5_bestPlaceOf_41 : decode cX5_bestPlaceOf 41 = .ok (.istore 7, 2) := by decide +kernel
theorem dX5_bestPlaceOf_43 : decode cX5_bestPlaceOf 43 = .ok (.iload 7, 2) := by decide +kernel
theorem dX5_bestPlaceOf_45 : decode cX5_bestPlaceOf 45 = .ok (.iload 4, 2) := by decide +kernel
theorem dX5_bestPlaceOf_47 : decode cX5_bestPlaceOf 47 = .ok (.if_icmp .ge 8, 3) := by decide +kernel
theorem dX5_bestPlaceOf_50 : decode cX5_bestPlaceOf 50 = .ok (.iload 6, 2) := by decide +kernel
theorem dX5_bestPlaceOf_52 : decode cX5_bestPlaceOf 52 = .ok (.goto 4, 3) := by decide +kernel
theorem dX5_bestPlaceOf_55 : decode cX5_bestPlaceOf 55 = .ok (.iload_n 3, 1) := by decide +kernel
theorem dX5_bestPlaceOf_56 : decode cX5_bestPlaceOf 56 = .ok (.istore_n 3, 1) := by decide +kernel
theorem dX5_bestPlaceOf_57 : decode cX5_bestPlaceOf 57 = .ok (.iload 7, 2) := by decide +kernel
theorem dX5_bestPlaceOf_59 : decode cX5_bestPlaceOf 59 = .ok (.iload 4, 2) := by decide +kernel
theorem dX5_bestPlaceOf_61 : decode cX5_bestPlaceOf 61 = .ok (.if_icmp .ge 8, 3) := by decide +kernel
theorem dX5_bestPlaceOf_64 : decode cX5_bestPlaceOf 64 = .ok (.iload 7, 2) := by decide +kernel
theorem dX5_bestPlaceOf_66 : decode cX5_bestPlaceOf 66 = .ok (.goto 5, 3) := by decide +kernel
theorem dX5_bestPlaceOf_69 : decode cX5_bestPlaceOf 69 = .ok (.iload 4, 2) := by decide +kernel
theorem dX5_bestPlaceOf_71 : decode cX5_bestPlaceOf 71 = .ok (.istore 4, 2) := by decide +kernel
theorem dX5_bestPlaceOf_73 : decode cX5_bestPlaceOf 73 = .ok (.iinc 6 1, 3) := by decide +kernel
theorem dX5_bestPlaceOf_76 : decode cX5_bestPlaceOf 76 = .ok (.goto (-50), 3) := by decide +kernel
theorem dX5_bestPlaceOf_79 : decode cX5_bestPlaceOf 79 = .ok (.iload_n 3, 1) := by decide +kernel
theorem dX5_bestPlaceOf_80 : decode cX5_bestPlaceOf 80 = .ok (.ireturn, 1) := by decide +kernel
theorem dX5_type_0 : decode cX5_type 0 = .ok (.aload_n 0, 1) := by decide +kernel
theorem dX5_type_1 : decode cX5_type 1 = .ok (.getfield 122, 3) := by decide +kernel
theorem dX5_type_4 : decode cX5_type 4 = .ok (.bipush 60, 2) := by decide +kernel
theorem dX5_type_6 : decode cX5_type 6 = .ok (.if_icmp .ne 6, 3) := by decide +kernel
theorem dX5_type_9 : decode cX5_type 9 = .ok (.bipush (-3), 2) := by decide +kernel
theorem dX5_type_11 : decode cX5_type 11 = .ok (.ireturn, 1) := by decide +kernel
theorem dX5_type_12 : decode cX5_type 12 = .ok (.aload_n 0, 1) := by decide +kernel
theorem dX5_type_13 : decode cX5_type 13 = .ok (.getfield 43, 3) := by decide +kernel
theorem dX5_type_16 : decode cX5_type 16 = .ok (.aload_n 0, 1) := by decide +kernel
theorem dX5_type_17 : decode cX5_type 17 = .ok (.getfield 122, 3) := by decide +kernel
theorem dX5_type_20 : decode cX5_type 20 = .ok (.iload_n 1, 1) := by decide +kernel
theorem dX5_type_21 : decode cX5_type 21 = .ok (.iastore, 1) := by decide +kernel
theorem dX5_type_22 : decode cX5_type 22 = .ok (.aload_n 0, 1) := by decide +kernel
theorem dX5_type_23 : decode cX5_type 23 = .ok (.dup, 1) := by decide +kernel
theorem dX5_type_24 : decode cX5_type 24 = .ok (.getfield 122, 3) := by decide +kernel
theorem dX5_type_27 : decode cX5_type 27 = .ok (.iconst 1, 1) := by decide +kernel
theorem dX5_type_28 : decode cX5_type 28 = .ok (.iadd, 1) := by decide +kernel
theorem dX5_type_29 : decode cX5_type 29 = .ok (.putfield 122, 3) := by decide +kernel
theorem dX5_type_32 : decode cX5_type 32 = .ok (.aload_n 0, 1) := by decide +kernel
theorem dX5_type_33 : decode cX5_type 33 = .ok (.getfield 122, 3) := by decide +kernel
theorem dX5_type_36 : decode cX5_type 36 = .ok (.ireturn, 1) := by decide +kernel
theorem dX5_clearText_0 : decode cX5_clearText 0 = .ok (.aload_n 0, 1) := by decide +kernel
theorem dX5_clearText_1 : decode cX5_clearText 1 = .ok (.getfield 122, 3) := by decide +kernel
theorem dX5_clearText_4 : decode cX5_clearText 4 = .ok (.istore_n 1, 1) := by decide +kernel
theorem dX5_clearText_5 : decode cX5_clearText 5 = .ok (.aload_n 0, 1) := by decide +kernel
theorem dX5_clearText_6 : decode cX5_clearText 6 = .ok (.iconst 0, 1) := by decide +kernel
theorem dX5_clearText_7 : decode cX5_clearText 7 = .ok (.putfield 122, 3) := by decide +kernel
theorem dX5_clearText_10 : decode cX5_clearText 10 = .ok (.iload_n 1, 1) := by decide +kernel
theorem dX5_clearText_11 : decode cX5_clearText 11 = .ok (.ireturn, 1) := by decide +kernel
set_option maxRecDepth 20000 in
theorem ggX5_isHere_X5_in : GoodIn wsX5_isHere wsX5_in := goodIn_r _ [7] (by decide +kernel) (by decide +kernel)
set_option maxRecDepth 20000 in
theorem gX5_isHere_X5_in : GoodIn wsX5_isHere (va_wsS RX5 59 yX5_in wsX5_in) := goodIn_app (goodIn_of _ (by decide +kernel)) ggX5_isHere_X5_in
theorem dX5_isHere_0 : decode cX5_isHere 0 = .ok (.aload_n 0, 1) := by decide +kernel
theorem dX5_isHere_1 : decode cX5_isHere 1 = .ok (.getfield 125, 3) := by decide +kernel
theorem dX5_isHere_4 : decode cX5_isHere 4 = .ok (.aload_n 0, 1) := by decide +kernel
theorem dX5_isHere_5 : decode cX5_isHere 5 = .ok (.getfield 122, 3) := by decide +kernel
theorem dX5_isHere_8 : decode cX5_isHere 8 = .ok (.if_icmp .ge 27, 3) := by decide +kernel
theorem dX5_isHere_11 : decode cX5_isHere 11 = .ok (.aload_n 0, 1) := by decide +kernel
theorem dX5_isHere_12 : decode cX5_isHere 12 = .ok (.getfield 43, 3) := by decide +kernel
theorem dX5_isHere_15 : decode cX5_isHere 15 = .ok (.aload_n 0, 1) := by decide +kernel
theorem dX5_isHere_16 : decode cX5_isHere 16 = .ok (.getfield 125, 3) := by decide +kernel
theorem dX5_isHere_19 : decode cX5_isHere 19 = .ok (.iaload, 1) := by decide +kernel
theorem dX5_isHere_20 : decode cX5_isHere 20 = .ok (.i2l, 1) := by decide +kernel
theorem dX5_isHere_21 : decode cX5_isHere 21 = .ok (.iload_n 1, 1) := by decide +kernel
theorem dX5_isHere_22 : decode cX5_isHere 22 = .ok (.i2l, 1) := by decide +kernel
theorem dX5_isHere_23 : decode cX5_isHere 23 = .ok (.iload_n 2, 1) := by decide +kernel
theorem dX5_isHere_24 : decode cX5_isHere 24 = .ok (.i2l, 1) := by decide +kernel
theorem dX5_isHere_25 : decode cX5_isHere 25 = .ok (.invokestatic 59, 3) := by decide +kernel
theorem dX5_isHere_28 : decode cX5_isHere 28 = .ok (.ifCond .eq 7, 3) := by decide +kernel
theorem dX5_isHere_31 : decode cX5_isHere 31 = .ok (.iconst 1, 1) := by decide +kernel
theorem dX5_isHere_32 : decode cX5_isHere 32 = .ok (.goto 4, 3) := by decide +kernel
theorem dX5_isHere_35 : decode cX5_isHere 35 = .ok (.iconst 0, 1) := by decide +kernel
theorem dX5_isHere_36 : decode cX5_isHere 36 = .ok (.ireturn, 1) := by decide +kernel
set_option maxRecDepth 20000 in
theorem ggX5_takes_X5_isHere : GoodIn wsX5_takes wsX5_isHere := goodIn_r _ [6, 1, 7, 8, 9, 10, 5, 11, 12, 13, 14, 15, 16, 17, 18, 19, 20, 21, 22, 23, 24, 25, 26, 27, 28, 29] (by decide +kernel) (by decide +kernel)
set_option maxRecDepth 20000 in
theorem gX5_takes_X5_isHere : GoodIn wsX5_takes (wsV RX5 128 RX5 yX5_isHere wsX5_isHere) := goodIn_app (goodIn_of _ (by decide +kernel)) ggX5_takes_X5_isHere
theorem dX5_takes_0 : decode cX5_takes 0 = .ok (.aload_n 0, 1) := by decide +kernel
theorem dX5_takes_1 : decode cX5_takes 1 = .ok (.iload_n 1, 1) := by decide +kernel
theorem dX5_takes_2 : decode cX5_takes 2 = .ok (.iload_n 1, 1) := by decide +kernel
theorem dX5_takes_3 : decode cX5_takes 3 = .ok (.invokevirtual 128, 3) := by decide +kernel
theorem dX5_takes_6 : decode cX5_takes 6 = .ok (.istore_n 2, 1) := by decide +kernel
theorem dX5_takes_7 : decode cX5_takes 7 = .ok (.aload_n 0, 1) := by decide +kernel
theorem dX5_takes_8 : decode cX5_takes 8 = .ok (.dup, 1) := by decide +kernel
theorem dX5_takes_9 : decode cX5_takes 9 = .ok (.getfield 125, 3) := by decide +kernel
theorem dX5_takes_12 : decode cX5_takes 12 = .ok (.iload_n 2, 1) := by decide +kernel
theorem dX5_takes_13 : decode cX5_takes 13 = .ok (.ifCond .eq 7, 3) := by decide +kernel
theorem dX5_takes_16 : decode cX5_takes 16 = .ok (.iconst 1, 1) := by decide +kernel
theorem dX5_takes_17 : decode cX5_takes 17 = .ok (.goto 4, 3) := by decide +kernel
theorem dX5_takes_20 : decode cX5_takes 20 = .ok (.iconst 0, 1) := by decide +kernel
theorem dX5_takes_21 : decode cX5_takes 21 = .ok (.iadd, 1) := by decide +kernel
theorem dX5_takes_22 : decode cX5_takes 22 = .ok (.putfield 125, 3) := by decide +kernel
theorem dX5_takes_25 : decode cX5_takes 25 = .ok (.iload_n 2, 1) := by decide +kernel
theorem dX5_takes_26 : decode cX5_takes 26 = .ok (.ireturn, 1) := by decide +kernel
theorem dX5_kindOf_0 : decode cX5_kindOf 0 = .ok (.iload_n 0, 1) := by decide +kernel
theorem dX5_kindOf_1 : decode cX5_kindOf 1 = .ok (.bipush 43, 2) := by decide +kernel
theorem dX5_kindOf_3 : decode cX5_kindOf 3 = .ok (.if_icmp .ne 7, 3) := by decide +kernel
theorem dX5_kindOf_6 : decode cX5_kindOf 6 = .ok (.iconst 0, 1) := by decide +kernel
theorem dX5_kindOf_7 : decode cX5_kindOf 7 = .ok (.goto 55, 3) := by decide +kernel
theorem dX5_kindOf_10 : decode cX5_kindOf 10 = .ok (.iload_n 0, 1) := by decide +kernel
theorem dX5_kindOf_11 : decode cX5_kindOf 11 = .ok (.bipush 45, 2) := by decide +kernel
theorem dX5_kindOf_13 : decode cX5_kindOf 13 = .ok (.if_icmp .ne 7, 3) := by decide +kernel
theorem dX5_kindOf_16 : decode cX5_kindOf 16 = .ok (.iconst 1, 1) := by decide +kernel
theorem dX5_kindOf_17 : decode cX5_kindOf 17 = .ok (.goto 45, 3) := by decide +kernel
theorem dX5_kindOf_20 : decode cX5_kindOf 20 = .ok (.iload_n 0, 1) := by decide +kernel
theorem dX5_kindOf_21 : decode cX5_kindOf 21 = .ok (.bipush 61, 2) := by decide +kernel
theorem dX5_kindOf_23 : decode cX5_kindOf 23 = .ok (.if_icmp .ne 7, 3) := by decide +kernel
theorem dX5_kindOf_26 : decode cX5_kindOf 26 = .ok (.iconst 2, 1) := by decide +kernel
theorem dX5_kindOf_27 : decode cX5_kindOf 27 = .ok (.goto 35, 3) := by decide +kernel
theorem dX5_kindOf_30 : decode cX5_kindOf 30 = .ok (.iload_n 0, 1) := by decide +kernel
theorem dX5_kindOf_31 : decode cX5_kindOf 31 = .ok (.bipush 62, 2) := by decide +kernel
theorem dX5_kindOf_33 : decode cX5_kindOf 33 = .ok (.if_icmp .ne 7, 3) := by decide +kernel
theorem dX5_kindOf_36 : decode cX5_kindOf 36 = .ok (.iconst 3, 1) := by decide +kernel
theorem dX5_kindOf_37 : decode cX5_kindOf 37 = .ok (.goto 25, 3) := by decide +kernel
theorem dX5_kindOf_40 : decode cX5_kindOf 40 = .ok (.iload_n 0, 1) := by decide +kernel
theorem dX5_kindOf_41 : decode cX5_kindOf 41 = .ok (.bipush 60, 2) := by decide +kernel
theorem dX5_kindOf_43 : decode cX5_kindOf 43 = .ok (.if_icmp .ne 7, 3) := by decide +kernel
theorem dX5_kindOf_46 : decode cX5_kindOf 46 = .ok (.iconst 4, 1) := by decide +kernel
theorem dX5_kindOf_47 : decode cX5_kindOf 47 = .ok (.goto 15, 3) := by decide +kernel
theorem dX5_kindOf_50 : decode cX5_kindOf 50 = .ok (.iload_n 0, 1) := by decide +kernel
theorem dX5_kindOf_51 : decode cX5_kindOf 51 = .ok (.bipush 46, 2) := by decide +kernel
theorem dX5_kindOf_53 : decode cX5_kindOf 53 = .ok (.if_icmp .ne 7, 3) := by decide +kernel
theorem dX5_kindOf_56 : decode cX5_kindOf 56 = .ok (.iconst 5, 1) := by decide +kernel
theorem dX5_kindOf_57 : decode cX5_kindOf 57 = .ok (.goto 5, 3) := by decide +kernel
theorem dX5_kindOf_60 : decode cX5_kindOf 60 = .ok (.bipush (-5), 2) := by decide +kernel
theorem dX5_kindOf_62 : decode cX5_kindOf 62 = .ok (.ireturn, 1) := by decide +kernel
set_option maxRecDepth 20000 in
theorem ggX5_readsEvent_X5_isHere : GoodIn wsX5_readsEvent wsX5_isHere := goodIn_r _ [9, 3, 4, 2, 10, 11, 8, 12, 16, 17, 18, 19, 20, 21, 22, 23, 24, 25, 26, 27, 28, 29, 30, 31, 32, 33] (by decide +kernel) (by decide +kernel)
set_option maxRecDepth 20000 in
theorem gX5_readsEvent_X5_isHere : GoodIn wsX5_readsEvent (wsV RX5 128 RX5 yX5_isHere wsX5_isHere) := goodIn_app (goodIn_of _ (by decide +kernel)) ggX5_readsEvent_X5_isHere
set_option maxRecDepth 20000 in
theorem ggX5_readsEvent_X5_kindOf : GoodIn wsX5_readsEvent wsX5_kindOf := goodIn_r _ [15] (by decide +kernel) (by decide +kernel)
set_option maxRecDepth 20000 in
theorem gX5_readsEvent_X5_kindOf : GoodIn wsX5_readsEvent (va_wsS RX5 132 yX5_kindOf wsX5_kindOf) := goodIn_app (goodIn_of _ (by decide +kernel)) ggX5_readsEvent_X5_kindOf
theorem dX5_readsEvent_0 : decode cX5_readsEvent 0 = .ok (.iconst 4, 1) := by decide +kernel
theorem dX5_readsEvent_1 : decode cX5_readsEvent 1 = .ok (.iconst 3, 1) := by decide +kernel
theorem dX5_readsEvent_2 : decode cX5_readsEvent 2 = .ok (.aload_n 0, 1) := by decide +kernel
theorem dX5_readsEvent_3 : decode cX5_readsEvent 3 = .ok (.getfield 46, 3) := by decide +kernel
theorem dX5_readsEvent_6 : decode cX5_readsEvent 6 = .ok (.iconst 3, 1) := by decide +kernel
theorem dX5_readsEvent_7 : decode cX5_readsEvent 7 = .ok (.iaload, 1) := by decide +kernel
theorem dX5_readsEvent_8 : decode cX5_readsEvent 8 = .ok (.imul, 1) := by decide +kernel
theorem dX5_readsEvent_9 : decode cX5_readsEvent 9 = .ok (.iadd, 1) := by decide +kernel
theorem dX5_readsEvent_10 : decode cX5_readsEvent 10 = .ok (.istore_n 1, 1) := by decide +kernel
theorem dX5_readsEvent_11 : decode cX5_readsEvent 11 = .ok (.aload_n 0, 1) := by decide +kernel
theorem dX5_readsEvent_12 : decode cX5_readsEvent 12 = .ok (.bipush 65, 2) := by decide +kernel
theorem dX5_readsEvent_14 : decode cX5_readsEvent 14 = .ok (.bipush 68, 2) := by decide +kernel
theorem dX5_readsEvent_16 : decode cX5_readsEvent 16 = .ok (.invokevirtual 128, 3) := by decide +kernel
theorem dX5_readsEvent_19 : decode cX5_readsEvent 19 = .ok (.ifCond .ne 5, 3) := by decide +kernel
theorem dX5_readsEvent_22 : decode cX5_readsEvent 22 = .ok (.iconst 0, 1) := by decide +kernel
theorem dX5_readsEvent_23 : decode cX5_readsEvent 23 = .ok (.ireturn, 1) := by decide +kernel
theorem dX5_readsEvent_24 : decode cX5_readsEvent 24 = .ok (.aload_n 0, 1) := by decide +kernel
theorem dX5_readsEvent_25 : decode cX5_readsEvent 25 = .ok (.getfield 46, 3) := by decide +kernel
theorem dX5_readsEvent_28 : decode cX5_readsEvent 28 = .ok (.iload_n 1, 1) := by decide +kernel
theorem dX5_readsEvent_29 : decode cX5_readsEvent 29 = .ok (.aload_n 0, 1) := by decide +kernel
theorem dX5_readsEvent_30 : decode cX5_readsEvent 30 = .ok (.getfield 43, 3) := by decide +kernel
theorem dX5_readsEvent_33 : decode cX5_readsEvent 33 = .ok (.aload_n 0, 1) := by decide +kernel
theorem dX5_readsEvent_34 : decode cX5_readsEvent 34 = .ok (.getfield 125, 3) := by decide +kernel
theorem dX5_readsEvent_37 : decode cX5_readsEvent 37 = .ok (.iaload, 1) := by decide +kernel
theorem dX5_readsEvent_38 : decode cX5_readsEvent 38 = .ok (.bipush 65, 2) := by decide +kernel
theorem dX5_readsEvent_40 : decode cX5_readsEvent 40 = .ok (.isub, 1) := by decide +kernel
theorem dX5_readsEvent_41 : decode cX5_readsEvent 41 = .ok (.iastore, 1) := by decide +kernel
theorem dX5_readsEvent_42 : decode cX5_readsEvent 42 = .ok (.aload_n 0, 1) := by decide +kernel
theorem dX5_readsEvent_43 : decode cX5_readsEvent 43 = .ok (.dup, 1) := by decide +kernel
theorem dX5_readsEvent_44 : decode cX5_readsEvent 44 = .ok (.getfield 125, 3) := by decide +kernel
theorem dX5_readsEvent_47 : decode cX5_readsEvent 47 = .ok (.iconst 1, 1) := by decide +kernel
theorem dX5_readsEvent_48 : decode cX5_readsEvent 48 = .ok (.iadd, 1) := by decide +kernel
theorem dX5_readsEvent_49 : decode cX5_readsEvent 49 = .ok (.putfield 125, 3) := by decide +kernel
theorem dX5_readsEvent_52 : decode cX5_readsEvent 52 = .ok (.aload_n 0, 1) := by decide +kernel
theorem dX5_readsEvent_53 : decode cX5_readsEvent 53 = .ok (.getfield 125, 3) := by decide +kernel
theorem dX5_readsEvent_56 : decode cX5_readsEvent 56 = .ok (.aload_n 0, 1) := by decide +kernel
theorem dX5_readsEvent_57 : decode cX5_readsEvent 57 = .ok (.getfield 122, 3) := by decide +kernel
theorem dX5_readsEvent_60 : decode cX5_readsEvent 60 = .ok (.if_icmp .ge 18, 3) := by decide +kernel
theorem dX5_readsEvent_63 : decode cX5_readsEvent 63 = .ok (.aload_n 0, 1) := by decide +kernel
theorem dX5_readsEvent_64 : decode cX5_readsEvent 64 = .ok (.getfield 43, 3) := by decide +kernel
theorem dX5_readsEvent_67 : decode cX5_readsEvent 67 = .ok (.aload_n 0, 1) := by decide +kernel
theorem dX5_readsEvent_68 : decode cX5_readsEvent 68 = .ok (.getfield 125, 3) := by decide +kernel
theorem dX5_readsEvent_71 : decode cX5_readsEvent 71 = .ok (.iaload, 1) := by decide +kernel
theorem dX5_readsEvent_72 : decode cX5_readsEvent 72 = .ok (.invokestatic 132, 3) := by decide +kernel
theorem dX5_readsEvent_75 : decode cX5_readsEvent 75 = .ok (.goto 5, 3) := by decide +kernel
theorem dX5_readsEvent_78 : decode cX5_readsEvent 78 = .ok (.bipush (-5), 2) := by decide +kernel
theorem dX5_readsEvent_80 : decode cX5_readsEvent 80 = .ok (.istore_n 2, 1) := by decide +kernel
theorem dX5_readsEvent_81 : decode cX5_readsEvent 81 = .ok (.iload_n 2, 1) := by decide +kernel
theorem dX5_readsEvent_82 : decode cX5_readsEvent 82 = .ok (.bipush (-5), 2) := by decide +kernel
theorem dX5_readsEvent_84 : decode cX5_readsEvent 84 = .ok (.if_icmp .ne 5, 3) := by decide +kernel
theorem dX5_readsEvent_87 : decode cX5_readsEvent 87 = .ok (.iconst 0, 1) := by decide +kernel
theorem dX5_readsEvent_88 : decode cX5_readsEvent 88 = .ok (.ireturn, 1) := by decide +kernel
theorem dX5_readsEvent_89 : decode cX5_readsEvent 89 = .ok (.aload_n 0, 1) := by decide +kernel
theorem dX5_readsEvent_90 : decode cX5_readsEvent 90 = .ok (.getfield 46, 3) := by decide +kernel
theorem dX5_readsEvent_93 : decode cX5_readsEvent 93 = .ok (.iload_n 1, 1) := by decide +kernel
theorem dX5_readsEvent_94 : decode cX5_readsEvent 94 = .ok (.iconst 1, 1) := by decide +kernel
theorem dX5_readsEvent_95 : decode cX5_readsEvent 95 = .ok (.iadd, 1) := by decide +kernel
theorem dX5_readsEvent_96 : decode cX5_readsEvent 96 = .ok (.iload_n 2, 1) := by decide +kernel
theorem dX5_readsEvent_97 : decode cX5_readsEvent 97 = .ok (.iastore, 1) := by decide +kernel
theorem dX5_readsEvent_98 : decode cX5_readsEvent 98 = .ok (.aload_n 0, 1) := by decide +kernel
theorem dX5_readsEvent_99 : decode cX5_readsEvent 99 = .ok (.getfield 46, 3) := by decide +kernel
theorem dX5_readsEvent_102 : decode cX5_readsEvent 102 = .ok (.iload_n 1, 1) := by decide +kernel
theorem dX5_readsEvent_103 : decode cX5_readsEvent 103 = .ok (.iconst 2, 1) := by decide +kernel
theorem dX5_readsEvent_104 : decode cX5_readsEvent 104 = .ok (.iadd, 1) := by decide +kernel
theorem dX5_readsEvent_105 : decode cX5_readsEvent 105 = .ok (.bipush (-5), 2) := by decide +kernel
theorem dX5_readsEvent_107 : decode cX5_readsEvent 107 = .ok (.iastore, 1) := by decide +kernel
theorem dX5_readsEvent_108 : decode cX5_readsEvent 108 = .ok (.aload_n 0, 1) := by decide +kernel
theorem dX5_readsEvent_109 : decode cX5_readsEvent 109 = .ok (.dup, 1) := by decide +kernel
theorem dX5_readsEvent_110 : decode cX5_readsEvent 110 = .ok (.getfield 125, 3) := by decide +kernel
theorem dX5_readsEvent_113 : decode cX5_readsEvent 113 = .ok (.iconst 1, 1) := by decide +kernel
theorem dX5_readsEvent_114 : decode cX5_readsEvent 114 = .ok (.iadd, 1) := by decide +kernel
theorem dX5_readsEvent_115 : decode cX5_readsEvent 115 = .ok (.putfield 125, 3) := by decide +kernel
theorem dX5_readsEvent_118 : decode cX5_readsEvent 118 = .ok (.iload_n 2, 1) := by decide +kernel
theorem dX5_readsEvent_119 : decode cX5_readsEvent 119 = .ok (.iconst 2, 1) := by decide +kernel
theorem dX5_readsEvent_120 : decode cX5_readsEvent 120 = .ok (.if_icmp .gt 46, 3) := by decide +kernel
theorem dX5_readsEvent_123 : decode cX5_readsEvent 123 = .ok (.aload_n 0, 1) := by decide +kernel
theorem dX5_readsEvent_124 : decode cX5_readsEvent 124 = .ok (.bipush 48, 2) := by decide +kernel
theorem dX5_readsEvent_126 : decode cX5_readsEvent 126 = .ok (.bipush 57, 2) := by decide +kernel
theorem dX5_readsEvent_128 : decode cX5_readsEvent 128 = .ok (.invokevirtual 128, 3) := by decide +kernel
theorem dX5_readsEvent_131 : decode cX5_readsEvent 131 = .ok (.ifCond .ne 5, 3) := by decide +kernel
theorem dX5_readsEvent_134 : decode cX5_readsEvent 134 = .ok (.iconst 0, 1) := by decide +kernel
theorem dX5_readsEvent_135 : decode cX5_readsEvent 135 = .ok (.ireturn, 1) := by decide +kernel
theorem dX5_readsEvent_136 : decode cX5_readsEvent 136 = .ok (.aload_n 0, 1) := by decide +kernel
theorem dX5_readsEvent_137 : decode cX5_readsEvent 137 = .ok (.getfield 46, 3) := by decide +kernel
theorem dX5_readsEvent_140 : decode cX5_readsEvent 140 = .ok (.iload_n 1, 1) := by decide +kernel
theorem dX5_readsEvent_141 : decode cX5_readsEvent 141 = .ok (.iconst 2, 1) := by decide +kernel
theorem dX5_readsEvent_142 : decode cX5_readsEvent 142 = .ok (.iadd, 1) := by decide +kernel
theorem dX5_readsEvent_143 : decode cX5_readsEvent 143 = .ok (.aload_n 0, 1) := by decide +kernel
theorem dX5_readsEvent_144 : decode cX5_readsEvent 144 = .ok (.getfield 43, 3) := by decide +kernel
theorem dX5_readsEvent_147 : decode cX5_readsEvent 147 = .ok (.aload_n 0, 1) := by decide +kernel
theorem dX5_readsEvent_148 : decode cX5_readsEvent 148 = .ok (.getfield 125, 3) := by decide +kernel
theorem dX5_readsEvent_151 : decode cX5_readsEvent 151 = .ok (.iaload, 1) := by decide +kernel
theorem dX5_readsEvent_152 : decode cX5_readsEvent 152 = .ok (.bipush 48, 2) := by decide +kernel
theorem dX5_readsEvent_154 : decode cX5_readsEvent 154 = .ok (.isub, 1) := by decide +kernel
theorem dX5_readsEvent_155 : decode cX5_readsEvent 155 = .ok (.iastore, 1) := by decide +kernel
theorem dX5_readsEvent_156 : decode cX5_readsEvent 156 = .ok (.aload_n 0, 1) := by decide +kernel
theorem dX5_readsEvent_157 : decode cX5_readsEvent 157 = .ok (.dup, 1) := by decide +kernel
theorem dX5_readsEvent_158 : decode cX5_readsEvent 158 = .ok (.getfield 125, 3) := by decide +kernel
theorem dX5_readsEvent_161 : decode cX5_readsEvent 161 = .ok (.iconst 1, 1) := by decide +kernel
theorem dX5_readsEvent_162 : decode cX5_readsEvent 162 = .ok (.iadd, 1) := by decide +kernel
theorem dX5_readsEvent_163 : decode cX5_readsEvent 163 = .ok (.putfield 125, 3) := by decide +kernel
theorem dX5_readsEvent_166 : decode cX5_readsEvent 166 = .ok (.aload_n 0, 1) := by decide +kernel
theorem dX5_readsEvent_167 : decode cX5_readsEvent 167 = .ok (.getfield 46, 3) := by decide +kernel
theorem dX5_readsEvent_170 : decode cX5_readsEvent 170 = .ok (.iconst 3, 1) := by decide +kernel
theorem dX5_readsEvent_171 : decode cX5_readsEvent 171 = .ok (.dup2, 1) := by decide +kernel
theorem dX5_readsEvent_172 : decode cX5_readsEvent 172 = .ok (.iaload, 1) := by decide +kernel
theorem dX5_readsEvent_173 : decode cX5_readsEvent 173 = .ok (.iconst 1, 1) := by decide +kernel
theorem dX5_readsEvent_174 : decode cX5_readsEvent 174 = .ok (.iadd, 1) := by decide +kernel
theorem dX5_readsEvent_175 : decode cX5_readsEvent 175 = .ok (.iastore, 1) := by decide +kernel
theorem dX5_readsEvent_176 : decode cX5_readsEvent 176 = .ok (.iconst 1, 1) := by decide +kernel
theorem dX5_readsEvent_177 : decode cX5_readsEvent 177 = .ok (.ireturn, 1) := by decide +kernel
set_option maxRecDepth 20000 in
theorem ggX5_fault_X5_isHere : GoodIn wsX5_fault wsX5_isHere := goodIn_r _ [9, 1, 4, 3, 10, 11, 8, 12, 24, 25, 26, 27, 28, 29, 30, 31, 32, 33, 34, 35, 36, 37, 38, 39, 40, 41] (by decide +kernel) (by decide +kernel)
set_option maxRecDepth 20000 in
theorem gX5_fault_X5_isHere : GoodIn wsX5_fault (wsV RX5 128 RX5 yX5_isHere wsX5_isHere) := goodIn_app (goodIn_of _ (by decide +kernel)) ggX5_fault_X5_isHere
set_option maxRecDepth 20000 in
theorem ggX5_fault_X5_takes : GoodIn wsX5_fault wsX5_takes := goodIn_r _ [16, 1, 5, 6, 7, 8, 9, 4, 3, 10, 11, 12, 24, 25, 26, 27, 28, 29, 30, 31, 32, 33, 34, 35, 36, 37, 38, 39, 40, 41] (by decide +kernel) (by decide +kernel)
set_option maxRecDepth 20000 in
theorem gX5_fault_X5_takes : GoodIn wsX5_fault (wsV RX5 135 RX5 yX5_takes wsX5_takes) := goodIn_app (goodIn_of _ (by decide +kernel)) ggX5_fault_X5_takes
set_option maxRecDepth 20000 in
theorem ggX5_fault_X5_readsEvent : GoodIn wsX5_fault wsX5_readsEvent := goodIn_r _ [20, 2, 3, 1, 4, 5, 6, 7, 8, 9, 10, 11, 12, 21, 22, 23, 24, 25, 26, 27, 28, 29, 30, 31, 32, 33, 34, 35, 36, 37, 38, 39, 40, 41] (by decide +kernel) (by decide +kernel)
set_option maxRecDepth 20000 in
theorem gX5_fault_X5_readsEvent : GoodIn wsX5_fault (wsV RX5 139 RX5 yX5_readsEvent wsX5_readsEvent) := goodIn_app (goodIn_of _ (by decide +kernel)) ggX5_fault_X5_readsEvent
theorem dX5_fault_0 : decode cX5_fault 0 = .ok (.aload_n 0, 1) := by decide +kernel
theorem dX5_fault_1 : decode cX5_fault 1 = .ok (.iconst 0, 1) := by decide +kernel
theorem dX5_fault_2 : decode cX5_fault 2 = .ok (.putfield 125, 3) := by decide +kernel
theorem dX5_fault_5 : decode cX5_fault 5 = .ok (.iconst 0, 1) := by decide +kernel
theorem dX5_fault_6 : decode cX5_fault 6 = .ok (.istore_n 1, 1) := by decide +kernel
theorem dX5_fault_7 : decode cX5_fault 7 = .ok (.iload_n 1, 1) := by decide +kernel
theorem dX5_fault_8 : decode cX5_fault 8 = .ok (.bipush 22, 2) := by decide +kernel
theorem dX5_fault_10 : decode cX5_fault 10 = .ok (.if_icmp .ge 16, 3) := by decide +kernel
theorem dX5_fault_13 : decode cX5_fault 13 = .ok (.aload_n 0, 1) := by decide +kernel
theorem dX5_fault_14 : decode cX5_fault 14 = .ok (.getfield 46, 3) := by decide +kernel
theorem dX5_fault_17 : decode cX5_fault 17 = .ok (.iload_n 1, 1) := by decide +kernel
theorem dX5_fault_18 : decode cX5_fault 18 = .ok (.iconst 0, 1) := by decide +kernel
theorem dX5_fault_19 : decode cX5_fault 19 = .ok (.iastore, 1) := by decide +kernel
theorem dX5_fault_20 : decode cX5_fault 20 = .ok (.iinc 1 1, 3) := by decide +kernel
theorem dX5_fault_23 : decode cX5_fault 23 = .ok (.goto (-16), 3) := by decide +kernel
theorem dX5_fault_26 : decode cX5_fault 26 = .ok (.aload_n 0, 1) := by decide +kernel
theorem dX5_fault_27 : decode cX5_fault 27 = .ok (.bipush 48, 2) := by decide +kernel
theorem dX5_fault_29 : decode cX5_fault 29 = .ok (.bipush 52, 2) := by decide +kernel
theorem dX5_fault_31 : decode cX5_fault 31 = .ok (.invokevirtual 128, 3) := by decide +kernel
theorem dX5_fault_34 : decode cX5_fault 34 = .ok (.ifCond .ne 8, 3) := by decide +kernel
theorem dX5_fault_37 : decode cX5_fault 37 = .ok (.aload_n 0, 1) := by decide +kernel
theorem dX5_fault_38 : decode cX5_fault 38 = .ok (.getfield 125, 3) := by decide +kernel
theorem dX5_fault_41 : decode cX5_fault 41 = .ok (.ireturn, 1) := by decide +kernel
theorem dX5_fault_42 : decode cX5_fault 42 = .ok (.aload_n 0, 1) := by decide +kernel
theorem dX5_fault_43 : decode cX5_fault 43 = .ok (.getfield 46, 3) := by decide +kernel
theorem dX5_fault_46 : decode cX5_fault 46 = .ok (.iconst 1, 1) := by decide +kernel
theorem dX5_fault_47 : decode cX5_fault 47 = .ok (.aload_n 0, 1) := by decide +kernel
theorem dX5_fault_48 : decode cX5_fault 48 = .ok (.getfield 43, 3) := by decide +kernel
theorem dX5_fault_51 : decode cX5_fault 51 = .ok (.aload_n 0, 1) := by decide +kernel
theorem dX5_fault_52 : decode cX5_fault 52 = .ok (.getfield 125, 3) := by decide +kernel
theorem dX5_fault_55 : decode cX5_fault 55 = .ok (.iaload, 1) := by decide +kernel
theorem dX5_fault_56 : decode cX5_fault 56 = .ok (.bipush 48, 2) := by decide +kernel
theorem dX5_fault_58 : decode cX5_fault 58 = .ok (.isub, 1) := by decide +kernel
theorem dX5_fault_59 : decode cX5_fault 59 = .ok (.iastore, 1) := by decide +kernel
theorem dX5_fault_60 : decode cX5_fault 60 = .ok (.aload_n 0, 1) := by decide +kernel
theorem dX5_fault_61 : decode cX5_fault 61 = .ok (.dup, 1) := by decide +kernel
theorem dX5_fault_62 : decode cX5_fault 62 = .ok (.getfield 125, 3) := by decide +kernel
theorem dX5_fault_65 : decode cX5_fault 65 = .ok (.iconst 1, 1) := by decide +kernel
theorem dX5_fault_66 : decode cX5_fault 66 = .ok (.iadd, 1) := by decide +kernel
theorem dX5_fault_67 : decode cX5_fault 67 = .ok (.putfield 125, 3) := by decide +kernel
theorem dX5_fault_70 : decode cX5_fault 70 = .ok (.aload_n 0, 1) := by decide +kernel
theorem dX5_fault_71 : decode cX5_fault 71 = .ok (.bipush 47, 2) := by decide +kernel
theorem dX5_fault_73 : decode cX5_fault 73 = .ok (.invokevirtual 135, 3) := by decide +kernel
theorem dX5_fault_76 : decode cX5_fault 76 = .ok (.ifCond .eq 14, 3) := by decide +kernel
theorem dX5_fault_79 : decode cX5_fault 79 = .ok (.aload_n 0, 1) := by decide +kernel
theorem dX5_fault_80 : decode cX5_fault 80 = .ok (.bipush 49, 2) := by decide +kernel
theorem dX5_fault_82 : decode cX5_fault 82 = .ok (.bipush 57, 2) := by decide +kernel
theorem dX5_fault_84 : decode cX5_fault 84 = .ok (.invokevirtual 128, 3) := by decide +kernel
theorem dX5_fault_87 : decode cX5_fault 87 = .ok (.ifCond .ne 8, 3) := by decide +kernel
theorem dX5_fault_90 : decode cX5_fault 90 = .ok (.aload_n 0, 1) := by decide +kernel
theorem dX5_fault_91 : decode cX5_fault 91 = .ok (.getfield 125, 3) := by decide +kernel
theorem dX5_fault_94 : decode cX5_fault 94 = .ok (.ireturn, 1) := by decide +kernel
theorem dX5_fault_95 : decode cX5_fault 95 = .ok (.aload_n 0, 1) := by decide +kernel
theorem dX5_fault_96 : decode cX5_fault 96 = .ok (.getfield 46, 3) := by decide +kernel
theorem dX5_fault_99 : decode cX5_fault 99 = .ok (.iconst 2, 1) := by decide +kernel
theorem dX5_fault_100 : decode cX5_fault 100 = .ok (.aload_n 0, 1) := by decide +kernel
theorem dX5_fault_101 : decode cX5_fault 101 = .ok (.getfield 43, 3) := by decide +kernel
theorem dX5_fault_104 : decode cX5_fault 104 = .ok (.aload_n 0, 1) := by decide +kernel
theorem dX5_fault_105 : decode cX5_fault 105 = .ok (.getfield 125, 3) := by decide +kernel
theorem dX5_fault_108 : decode cX5_fault 108 = .ok (.iaload, 1) := by decide +kernel
theorem dX5_fault_109 : decode cX5_fault 109 = .ok (.bipush 48, 2) := by decide +kernel
theorem dX5_fault_111 : decode cX5_fault 111 = .ok (.isub, 1) := by decide +kernel
theorem dX5_fault_112 : decode cX5_fault 112 = .ok (.iastore, 1) := by decide +kernel
theorem dX5_fault_113 : decode cX5_fault 113 = .ok (.aload_n 0, 1) := by decide +kernel
theorem dX5_fault_114 : decode cX5_fault 114 = .ok (.dup, 1) := by decide +kernel
theorem dX5_fault_115 : decode cX5_fault 115 = .ok (.getfield 125, 3) := by decide +kernel
theorem dX5_fault_118 : decode cX5_fault 118 = .ok (.iconst 1, 1) := by decide +kernel
theorem dX5_fault_119 : decode cX5_fault 119 = .ok (.iadd, 1) := by decide +kernel
theorem dX5_fault_120 : decode cX5_fault 120 = .ok (.putfield 125, 3) := by decide +kernel
theorem dX5_fault_123 : decode cX5_fault 123 = .ok (.aload_n 0, 1) := by decide +kernel
theorem dX5_fault_124 : decode cX5_fault 124 = .ok (.bipush 48, 2) := by decide +kernel
theorem dX5_fault_126 : decode cX5_fault 126 = .ok (.bipush 57, 2) := by decide +kernel
theorem dX5_fault_128 : decode cX5_fault 128 = .ok (.invokevirtual 128, 3) := by decide +kernel
theorem dX5_fault_131 : decode cX5_fault 131 = .ok (.ifCond .eq 41, 3) := by decide +kernel
theorem dX5_fault_134 : decode cX5_fault 134 = .ok (.aload_n 0, 1) := by decide +kernel
theorem dX5_fault_135 : decode cX5_fault 135 = .ok (.getfield 46, 3) := by decide +kernel
theorem dX5_fault_138 : decode cX5_fault 138 = .ok (.iconst 2, 1) := by decide +kernel
theorem dX5_fault_139 : decode cX5_fault 139 = .ok (.bipush 10, 2) := by decide +kernel
theorem dX5_fault_141 : decode cX5_fault 141 = .ok (.aload_n 0, 1) := by decide +kernel
theorem dX5_fault_142 : decode cX5_fault 142 = .ok (.getfield 46, 3) := by decide +kernel
theorem dX5_fault_145 : decode cX5_fault 145 = .ok (.iconst 2, 1) := by decide +kernel
theorem dX5_fault_146 : decode cX5_fault 146 = .ok (.iaload, 1) := by decide +kernel
theorem dX5_fault_147 : decode cX5_fault 147 = .ok (.imul, 1) := by decide +kernel
theorem dX5_fault_148 : decode cX5_fault 148 = .ok (.aload_n 0, 1) := by decide +kernel
theorem dX5_fault_149 : decode cX5_fault 149 = .ok (.getfield 43, 3) := by decide +kernel
theorem dX5_fault_152 : decode cX5_fault 152 = .ok (.aload_n 0, 1) := by decide +kernel
theorem dX5_fault_153 : decode cX5_fault 153 = .ok (.getfield 125, 3) := by decide +kernel
theorem dX5_fault_156 : decode cX5_fault 156 = .ok (.iaload, 1) := by decide +kernel
theorem dX5_fault_157 : decode cX5_fault 157 = .ok (.iadd, 1) := by decide +kernel
theorem dX5_fault_158 : decode cX5_fault 158 = .ok (.bipush 48, 2) := by decide +kernel
theorem dX5_fault_160 : decode cX5_fault 160 = .ok (.isub, 1) := by decide +kernel
theorem dX5_fault_161 : decode cX5_fault 161 = .ok (.iastore, 1) := by decide +kernel
theorem dX5_fault_162 : decode cX5_fault 162 = .ok (.aload_n 0, 1) := by decide +kernel
theorem dX5_fault_163 : decode cX5_fault 163 = .ok (.dup, 1) := by decide +kernel
theorem dX5_fault_164 : decode cX5_fault 164 = .ok (.getfield 125, 3) := by decide +kernel
theorem dX5_fault_167 : decode cX5_fault 167 = .ok (.iconst 1, 1) := by decide +kernel
theorem dX5_fault_168 : decode cX5_fault 168 = .ok (.iadd, 1) := by decide +kernel
theorem dX5_fault_169 : decode cX5_fault 169 = .ok (.putfield 125, 3) := by decide +kernel
theorem dX5_fault_172 : decode cX5_fault 172 = .ok (.aload_n 0, 1) := by decide +kernel
theorem dX5_fault_173 : decode cX5_fault 173 = .ok (.getfield 46, 3) := by decide +kernel
theorem dX5_fault_176 : decode cX5_fault 176 = .ok (.iconst 3, 1) := by decide +kernel
theorem dX5_fault_177 : decode cX5_fault 177 = .ok (.iaload, 1) := by decide +kernel
theorem dX5_fault_178 : decode cX5_fault 178 = .ok (.bipush 6, 2) := by decide +kernel
theorem dX5_fault_180 : decode cX5_fault 180 = .ok (.if_icmp .ge 24, 3) := by decide +kernel
theorem dX5_fault_183 : decode cX5_fault 183 = .ok (.aload_n 0, 1) := by decide +kernel
theorem dX5_fault_184 : decode cX5_fault 184 = .ok (.bipush 44, 2) := by decide +kernel
theorem dX5_fault_186 : decode cX5_fault 186 = .ok (.invokevirtual 135, 3) := by decide +kernel
theorem dX5_fault_189 : decode cX5_fault 189 = .ok (.ifCond .eq 15, 3) := by decide +kernel
theorem dX5_fault_192 : decode cX5_fault 192 = .ok (.aload_n 0, 1) := by decide +kernel
theorem dX5_fault_193 : decode cX5_fault 193 = .ok (.invokevirtual 139, 3) := by decide +kernel
theorem dX5_fault_196 : decode cX5_fault 196 = .ok (.ifCond .ne (-24), 3) := by decide +kernel
theorem dX5_fault_199 : decode cX5_fault 199 = .ok (.aload_n 0, 1) := by decide +kernel
theorem dX5_fault_200 : decode cX5_fault 200 = .ok (.getfield 125, 3) := by decide +kernel
theorem dX5_fault_203 : decode cX5_fault 203 = .ok (.ireturn, 1) := by decide +kernel
theorem dX5_fault_204 : decode cX5_fault 204 = .ok (.aload_n 0, 1) := by decide +kernel
theorem dX5_fault_205 : decode cX5_fault 205 = .ok (.getfield 125, 3) := by decide +kernel
theorem dX5_fault_208 : decode cX5_fault 208 = .ok (.aload_n 0, 1) := by decide +kernel
theorem dX5_fault_209 : decode cX5_fault 209 = .ok (.getfield 122, 3) := by decide +kernel
theorem dX5_fault_212 : decode cX5_fault 212 = .ok (.if_icmp .ne 8, 3) := by decide +kernel
theorem dX5_fault_215 : decode cX5_fault 215 = .ok (.bipush (-5), 2) := by decide +kernel
theorem dX5_fault_217 : decode cX5_fault 217 = .ok (.goto 7, 3) := by decide +kernel
theorem dX5_fault_220 : decode cX5_fault 220 = .ok (.aload_n 0, 1) := by decide +kernel
theorem dX5_fault_221 : decode cX5_fault 221 = .ok (.getfield 125, 3) := by decide +kernel
theorem dX5_fault_224 : decode cX5_fault 224 = .ok (.ireturn, 1) := by decide +kernel
theorem dX5_takesRead_0 : decode cX5_takesRead 0 = .ok (.iconst 0, 1) := by decide +kernel
theorem dX5_takesRead_1 : decode cX5_takesRead 1 = .ok (.istore_n 2, 1) := by decide +kernel
theorem dX5_takesRead_2 : decode cX5_takesRead 2 = .ok (.iload_n 2, 1) := by decide +kernel
theorem dX5_takesRead_3 : decode cX5_takesRead 3 = .ok (.bipush 22, 2) := by decide +kernel
theorem dX5_takesRead_5 : decode cX5_takesRead 5 = .ok (.if_icmp .ge 21, 3) := by decide +kernel
theorem dX5_takesRead_8 : decode cX5_takesRead 8 = .ok (.aload_n 0, 1) := by decide +kernel
theorem dX5_takesRead_9 : decode cX5_takesRead 9 = .ok (.getfield 25, 3) := by decide +kernel
theorem dX5_takesRead_12 : decode cX5_takesRead 12 = .ok (.iload_n 2, 1) := by decide +kernel
theorem dX5_takesRead_13 : decode cX5_takesRead 13 = .ok (.aload_n 0, 1) := by decide +kernel
theorem dX5_takesRead_14 : decode cX5_takesRead 14 = .ok (.getfield 46, 3) := by decide +kernel
theorem dX5_takesRead_17 : decode cX5_takesRead 17 = .ok (.iload_n 2, 1) := by decide +kernel
theorem dX5_takesRead_18 : decode cX5_takesRead 18 = .ok (.iaload, 1) := by decide +kernel
theorem dX5_takesRead_19 : decode cX5_takesRead 19 = .ok (.iastore, 1) := by decide +kernel
theorem dX5_takesRead_20 : decode cX5_takesRead 20 = .ok (.iinc 2 1, 3) := by decide +kernel
theorem dX5_takesRead_23 : decode cX5_takesRead 23 = .ok (.goto (-21), 3) := by decide +kernel
theorem dX5_takesRead_26 : decode cX5_takesRead 26 = .ok (.aload_n 0, 1) := by decide +kernel
theorem dX5_takesRead_27 : decode cX5_takesRead 27 = .ok (.getfield 25, 3) := by decide +kernel
theorem dX5_takesRead_30 : decode cX5_takesRead 30 = .ok (.iconst 0, 1) := by decide +kernel
theorem dX5_takesRead_31 : decode cX5_takesRead 31 = .ok (.iload_n 1, 1) := by decide +kernel
theorem dX5_takesRead_32 : decode cX5_takesRead 32 = .ok (.iastore, 1) := by decide +kernel
theorem dX5_takesRead_33 : decode cX5_takesRead 33 = .ok (.return_, 1) := by decide +kernel
set_option maxRecDepth 20000 in
theorem ggX5_putPanel_X5_fault : GoodIn wsX5_putPanel wsX5_fault := goodIn_r _ [7, 8, 9, 10, 11, 12, 13, 14, 6, 15, 16, 17, 18, 19, 20, 21, 22, 23, 24, 25, 26, 27, 28, 29, 60, 61, 62, 63, 64, 65, 66, 67, 68, 69, 70, 71, 72, 73, 74, 75, 76, 77] (by decide +kernel) (by decide +kernel)
set_option maxRecDepth 20000 in
theorem gX5_putPanel_X5_fault : GoodIn wsX5_putPanel (wsV RX5 143 RX5 yX5_fault wsX5_fault) := goodIn_app (goodIn_of _ (by decide +kernel)) ggX5_putPanel_X5_fault
set_option maxRecDepth 20000 in
theorem ggX5_putPanel_X5_remember : GoodIn wsX5_putPanel wsX5_remember := goodIn_r _ [33, 1, 34, 35, 36, 6, 37, 60, 61, 62, 63, 64, 65, 66, 67, 68, 69, 70, 71, 72, 73, 74, 75, 76, 77] (by decide +kernel) (by decide +kernel)
set_option maxRecDepth 20000 in
theorem gX5_putPanel_X5_remember : GoodIn wsX5_putPanel (wsV RX5 146 RX5 yX5_remember wsX5_remember) := goodIn_app (goodIn_of _ (by decide +kernel)) ggX5_putPanel_X5_remember
set_option maxRecDepth 20000 in
theorem ggX5_putPanel_X5_takesRead : GoodIn wsX5_putPanel wsX5_takesRead := goodIn_r _ [41, 2, 9, 60, 61, 62, 63, 64, 65, 66, 67, 68, 69, 70, 71, 72, 73, 74, 75, 76, 77] (by decide +kernel) (by decide +kernel)
set_option maxRecDepth 20000 in
theorem gX5_putPanel_X5_takesRead : GoodIn wsX5_putPanel (wsV RX5 149 RX5 yX5_takesRead wsX5_takesRead) := goodIn_app (goodIn_of _ (by decide +kernel)) ggX5_putPanel_X5_takesRead
set_option maxRecDepth 20000 in
theorem ggX5_putPanel_X5_panelsOf : GoodIn wsX5_putPanel wsX5_panelsOf := goodIn_r _ [45, 1, 46, 47, 48, 6, 49, 60, 61, 62, 63, 64, 65, 66, 67, 68, 69, 70, 71, 72, 73, 74, 75, 76, 77] (by decide +kernel) (by decide +kernel)
set_option maxRecDepth 20000 in
theorem gX5_putPanel_X5_panelsOf : GoodIn wsX5_putPanel (wsV RX5 113 RX5 yX5_panelsOf wsX5_panelsOf) := goodIn_app (goodIn_of _ (by decide +kernel)) ggX5_putPanel_X5_panelsOf
set_option maxRecDepth 20000 in
theorem ggX5_putPanel_X5_putsIn : GoodIn wsX5_putPanel wsX5_putsIn := goodIn_r _ [53, 1, 2, 46, 47, 48, 6, 49, 60, 61, 62, 63, 64, 65, 66, 67, 68, 69, 70, 71, 72, 73, 74, 75, 76, 77] (by decide +kernel) (by decide +kernel)
set_option maxRecDepth 20000 in
theorem gX5_putPanel_X5_putsIn : GoodIn wsX5_putPanel (wsV RX5 75 RX5 yX5_putsIn wsX5_putsIn) := goodIn_app (goodIn_of _ (by decide +kernel)) ggX5_putPanel_X5_putsIn
set_option maxRecDepth 20000 in
theorem ggX5_putPanel_X5_acted : GoodIn wsX5_putPanel wsX5_acted := goodIn_r _ [57, 58, 59, 34, 60, 61, 62, 63, 64, 65, 66, 67, 68, 69, 70, 71, 72, 73, 74, 75, 76, 77] (by decide +kernel) (by decide +kernel)
set_option maxRecDepth 20000 in
theorem gX5_putPanel_X5_acted : GoodIn wsX5_putPanel (wsV RX5 152 RX5 yX5_acted wsX5_acted) := goodIn_app (goodIn_of _ (by decide +kernel)) ggX5_putPanel_X5_acted
theorem dX5_putPanel_0 : decode cX5_putPanel 0 = .ok (.aload_n 0, 1) := by decide +kernel
theorem dX5_putPanel_1 : decode cX5_putPanel 1 = .ok (.invokevirtual 143, 3) := by decide +kernel
theorem dX5_putPanel_4 : decode cX5_putPanel 4 = .ok (.istore_n 1, 1) := by decide +kernel
theorem dX5_putPanel_5 : decode cX5_putPanel 5 = .ok (.iload_n 1, 1) := by decide +kernel
theorem dX5_putPanel_6 : decode cX5_putPanel 6 = .ok (.bipush (-5), 2) := by decide +kernel
theorem dX5_putPanel_8 : decode cX5_putPanel 8 = .ok (.if_icmp .eq 8, 3) := by decide +kernel
theorem dX5_putPanel_11 : decode cX5_putPanel 11 = .ok (.bipush (-100), 2) := by decide +kernel
theorem dX5_putPanel_13 : decode cX5_putPanel 13 = .ok (.iload_n 1, 1) := by decide +kernel
theorem dX5_putPanel_14 : decode cX5_putPanel 14 = .ok (.isub, 1) := by decide +kernel
theorem dX5_putPanel_15 : decode cX5_putPanel 15 = .ok (.ireturn, 1) := by decide +kernel
theorem dX5_putPanel_16 : decode cX5_putPanel 16 = .ok (.aload_n 0, 1) := by decide +kernel
theorem dX5_putPanel_17 : decode cX5_putPanel 17 = .ok (.getfield 7, 3) := by decide +kernel
theorem dX5_putPanel_20 : decode cX5_putPanel 20 = .ok (.iconst 1, 1) := by decide +kernel
theorem dX5_putPanel_21 : decode cX5_putPanel 21 = .ok (.iaload, 1) := by decide +kernel
theorem dX5_putPanel_22 : decode cX5_putPanel 22 = .ok (.bipush 10, 2) := by decide +kernel
theorem dX5_putPanel_24 : decode cX5_putPanel 24 = .ok (.if_icmp .eq 14, 3) := by decide +kernel
theorem dX5_putPanel_27 : decode cX5_putPanel 27 = .ok (.aload_n 0, 1) := by decide +kernel
theorem dX5_putPanel_28 : decode cX5_putPanel 28 = .ok (.getfield 7, 3) := by decide +kernel
theorem dX5_putPanel_31 : decode cX5_putPanel 31 = .ok (.iconst 0, 1) := by decide +kernel
theorem dX5_putPanel_32 : decode cX5_putPanel 32 = .ok (.iaload, 1) := by decide +kernel
theorem dX5_putPanel_33 : decode cX5_putPanel 33 = .ok (.bipush 99, 2) := by decide +kernel
theorem dX5_putPanel_35 : decode cX5_putPanel 35 = .ok (.if_icmp .ne 6, 3) := by decide +kernel
theorem dX5_putPanel_38 : decode cX5_putPanel 38 = .ok (.bipush (-3), 2) := by decide +kernel
theorem dX5_putPanel_40 : decode cX5_putPanel 40 = .ok (.ireturn, 1) := by decide +kernel
theorem dX5_putPanel_41 : decode cX5_putPanel 41 = .ok (.aload_n 0, 1) := by decide +kernel
theorem dX5_putPanel_42 : decode cX5_putPanel 42 = .ok (.invokevirtual 146, 3) := by decide +kernel
theorem dX5_putPanel_45 : decode cX5_putPanel 45 = .ok (.aload_n 0, 1) := by decide +kernel
theorem dX5_putPanel_46 : decode cX5_putPanel 46 = .ok (.aload_n 0, 1) := by decide +kernel
theorem dX5_putPanel_47 : decode cX5_putPanel 47 = .ok (.getfield 7, 3) := by decide +kernel
theorem dX5_putPanel_50 : decode cX5_putPanel 50 = .ok (.iconst 0, 1) := by decide +kernel
theorem dX5_putPanel_51 : decode cX5_putPanel 51 = .ok (.iaload, 1) := by decide +kernel
theorem dX5_putPanel_52 : decode cX5_putPanel 52 = .ok (.invokevirtual 149, 3) := by decide +kernel
theorem dX5_putPanel_55 : decode cX5_putPanel 55 = .ok (.aload_n 0, 1) := by decide +kernel
theorem dX5_putPanel_56 : decode cX5_putPanel 56 = .ok (.aload_n 0, 1) := by decide +kernel
theorem dX5_putPanel_57 : decode cX5_putPanel 57 = .ok (.aload_n 0, 1) := by decide +kernel
theorem dX5_putPanel_58 : decode cX5_putPanel 58 = .ok (.getfield 25, 3) := by decide +kernel
theorem dX5_putPanel_61 : decode cX5_putPanel 61 = .ok (.iconst 1, 1) := by decide +kernel
theorem dX5_putPanel_62 : decode cX5_putPanel 62 = .ok (.iaload, 1) := by decide +kernel
theorem dX5_putPanel_63 : decode cX5_putPanel 63 = .ok (.invokevirtual 113, 3) := by decide +kernel
theorem dX5_putPanel_66 : decode cX5_putPanel 66 = .ok (.invokevirtual 75, 3) := by decide +kernel
theorem dX5_putPanel_69 : decode cX5_putPanel 69 = .ok (.aload_n 0, 1) := by decide +kernel
theorem dX5_putPanel_70 : decode cX5_putPanel 70 = .ok (.getfield 7, 3) := by decide +kernel
theorem dX5_putPanel_73 : decode cX5_putPanel 73 = .ok (.iconst 0, 1) := by decide +kernel
theorem dX5_putPanel_74 : decode cX5_putPanel 74 = .ok (.dup2, 1) := by decide +kernel
theorem dX5_putPanel_75 : decode cX5_putPanel 75 = .ok (.iaload, 1) := by decide +kernel
theorem dX5_putPanel_76 : decode cX5_putPanel 76 = .ok (.iconst 1, 1) := by decide +kernel
theorem dX5_putPanel_77 : decode cX5_putPanel 77 = .ok (.iadd, 1) := by decide +kernel
theorem dX5_putPanel_78 : decode cX5_putPanel 78 = .ok (.iastore, 1) := by decide +kernel
theorem dX5_putPanel_79 : decode cX5_putPanel 79 = .ok (.aload_n 0, 1) := by decide +kernel
theorem dX5_putPanel_80 : decode cX5_putPanel 80 = .ok (.aload_n 0, 1) := by decide +kernel
theorem dX5_putPanel_81 : decode cX5_putPanel 81 = .ok (.getfield 7, 3) := by decide +kernel
theorem dX5_putPanel_84 : decode cX5_putPanel 84 = .ok (.iconst 0, 1) := by decide +kernel
theorem dX5_putPanel_85 : decode cX5_putPanel 85 = .ok (.iaload, 1) := by decide +kernel
theorem dX5_putPanel_86 : decode cX5_putPanel 86 = .ok (.iconst 1, 1) := by decide +kernel
theorem dX5_putPanel_87 : decode cX5_putPanel 87 = .ok (.isub, 1) := by decide +kernel
theorem dX5_putPanel_88 : decode cX5_putPanel 88 = .ok (.invokevirtual 152, 3) := by decide +kernel
theorem dX5_putPanel_91 : decode cX5_putPanel 91 = .ok (.ireturn, 1) := by decide +kernel
set_option maxRecDepth 20000 in
theorem ggX5_redraw_X5_lieOf : GoodIn wsX5_redraw wsX5_lieOf := goodIn_r _ [7, 8, 9, 10, 11, 6, 12, 72, 73, 74, 75, 76, 77, 78, 79, 80, 81, 82, 83, 84, 85, 86, 87, 88, 89] (by decide +kernel) (by decide +kernel)
set_option maxRecDepth 20000 in
theorem gX5_redraw_X5_lieOf : GoodIn wsX5_redraw (wsV RX5 67 RX5 yX5_lieOf wsX5_lieOf) := goodIn_app (goodIn_of _ (by decide +kernel)) ggX5_redraw_X5_lieOf
set_option maxRecDepth 20000 in
theorem ggX5_redraw_X5_fault : GoodIn wsX5_redraw wsX5_fault := goodIn_r _ [16, 17, 1, 18, 19, 20, 21, 22, 6, 23, 24, 25, 26, 27, 28, 29, 30, 31, 32, 33, 34, 35, 36, 37, 72, 73, 74, 75, 76, 77, 78, 79, 80, 81, 82, 83, 84, 85, 86, 87, 88, 89] (by decide +kernel) (by decide +kernel)
set_option maxRecDepth 20000 in
theorem gX5_redraw_X5_fault : GoodIn wsX5_redraw (wsV RX5 143 RX5 yX5_fault wsX5_fault) := goodIn_app (goodIn_of _ (by decide +kernel)) ggX5_redraw_X5_fault
set_option maxRecDepth 20000 in
theorem ggX5_redraw_X5_remember : GoodIn wsX5_redraw wsX5_remember := goodIn_r _ [41, 8, 42, 43, 44, 6, 45, 72, 73, 74, 75, 76, 77, 78, 79, 80, 81, 82, 83, 84, 85, 86, 87, 88, 89] (by decide +kernel) (by decide +kernel)
set_option maxRecDepth 20000 in
theorem gX5_redraw_X5_remember : GoodIn wsX5_redraw (wsV RX5 146 RX5 yX5_remember wsX5_remember) := goodIn_app (goodIn_of _ (by decide +kernel)) ggX5_redraw_X5_remember
set_option maxRecDepth 20000 in
theorem ggX5_redraw_X5_placeOf : GoodIn wsX5_redraw wsX5_placeOf := goodIn_r _ [49, 9, 10, 11, 6, 12, 8, 72, 73, 74, 75, 76, 77, 78, 79, 80, 81, 82, 83, 84, 85, 86, 87, 88, 89] (by decide +kernel) (by decide +kernel)
set_option maxRecDepth 20000 in
theorem gX5_redraw_X5_placeOf : GoodIn wsX5_redraw (wsV RX5 155 RX5 yX5_placeOf wsX5_placeOf) := goodIn_app (goodIn_of _ (by decide +kernel)) ggX5_redraw_X5_placeOf
set_option maxRecDepth 20000 in
theorem ggX5_redraw_X5_of : GoodIn wsX5_redraw wsX5_of := goodIn_r _ [12, 8, 72, 73, 74, 75, 76, 77, 78, 79, 80, 81, 82, 83, 84, 85, 86, 87, 88, 89] (by decide +kernel) (by decide +kernel)
set_option maxRecDepth 20000 in
theorem gX5_redraw_X5_of : GoodIn wsX5_redraw (wsV RX5 63 RX5 yX5_of wsX5_of) := goodIn_app (goodIn_of _ (by decide +kernel)) ggX5_redraw_X5_of
set_option maxRecDepth 20000 in
theorem ggX5_redraw_X5_takesOut : GoodIn wsX5_redraw wsX5_takesOut := goodIn_r _ [53, 2, 8, 9, 10, 11, 6, 12, 72, 73, 74, 75, 76, 77, 78, 79, 80, 81, 82, 83, 84, 85, 86, 87, 88, 89] (by decide +kernel) (by decide +kernel)
set_option maxRecDepth 20000 in
theorem gX5_redraw_X5_takesOut : GoodIn wsX5_redraw (wsV RX5 71 RX5 yX5_takesOut wsX5_takesOut) := goodIn_app (goodIn_of _ (by decide +kernel)) ggX5_redraw_X5_takesOut
set_option maxRecDepth 20000 in
theorem ggX5_redraw_X5_takesRead : GoodIn wsX5_redraw wsX5_takesRead := goodIn_r _ [57, 2, 1, 72, 73, 74, 75, 76, 77, 78, 79, 80, 81, 82, 83, 84, 85, 86, 87, 88, 89] (by decide +kernel) (by decide +kernel)
set_option maxRecDepth 20000 in
theorem gX5_redraw_X5_takesRead : GoodIn wsX5_redraw (wsV RX5 149 RX5 yX5_takesRead wsX5_takesRead) := goodIn_app (goodIn_of _ (by decide +kernel)) ggX5_redraw_X5_takesRead
set_option maxRecDepth 20000 in
theorem ggX5_redraw_X5_panelsOf : GoodIn wsX5_redraw wsX5_panelsOf := goodIn_r _ [61, 8, 9, 10, 11, 6, 12, 72, 73, 74, 75, 76, 77, 78, 79, 80, 81, 82, 83, 84, 85, 86, 87, 88, 89] (by decide +kernel) (by decide +kernel)
set_option maxRecDepth 20000 in
theorem gX5_redraw_X5_panelsOf : GoodIn wsX5_redraw (wsV RX5 113 RX5 yX5_panelsOf wsX5_panelsOf) := goodIn_app (goodIn_of _ (by decide +kernel)) ggX5_redraw_X5_panelsOf
set_option maxRecDepth 20000 in
theorem ggX5_redraw_X5_putsIn : GoodIn wsX5_redraw wsX5_putsIn := goodIn_r _ [65, 8, 2, 9, 10, 11, 6, 12, 72, 73, 74, 75, 76, 77, 78, 79, 80, 81, 82, 83, 84, 85, 86, 87, 88, 89] (by decide +kernel) (by decide +kernel)
set_option maxRecDepth 20000 in
theorem gX5_redraw_X5_putsIn : GoodIn wsX5_redraw (wsV RX5 75 RX5 yX5_putsIn wsX5_putsIn) := goodIn_app (goodIn_of _ (by decide +kernel)) ggX5_redraw_X5_putsIn
set_option maxRecDepth 20000 in
theorem ggX5_redraw_X5_acted : GoodIn wsX5_redraw wsX5_acted := goodIn_r _ [69, 70, 71, 42, 72, 73, 74, 75, 76, 77, 78, 79, 80, 81, 82, 83, 84, 85, 86, 87, 88, 89] (by decide +kernel) (by decide +kernel)
set_option maxRecDepth 20000 in
theorem gX5_redraw_X5_acted : GoodIn wsX5_redraw (wsV RX5 152 RX5 yX5_acted wsX5_acted) := goodIn_app (goodIn_of _ (by decide +kernel)) ggX5_redraw_X5_acted
theorem dX5_redraw_0 : decode cX5_redraw 0 = .ok (.aload_n 0, 1) := by decide +kernel
theorem dX5_redraw_1 : decode cX5_redraw 1 = .ok (.iload_n 1, 1) := by decide +kernel
theorem dX5_redraw_2 : decode cX5_redraw 2 = .ok (.invokevirtual 67, 3) := by decide +kernel
theorem dX5_redraw_5 : decode cX5_redraw 5 = .ok (.istore_n 2, 1) := by decide +kernel
theorem dX5_redraw_6 : decode cX5_redraw 6 = .ok (.iload_n 2, 1) := by decide +kernel
theorem dX5_redraw_7 : decode cX5_redraw 7 = .ok (.bipush (-5), 2) := by decide +kernel
theorem dX5_redraw_9 : decode cX5_redraw 9 = .ok (.if_icmp .ne 5, 3) := by decide +kernel
theorem dX5_redraw_12 : decode cX5_redraw 12 = .ok (.iconst (-1), 1) := by decide +kernel
theorem dX5_redraw_13 : decode cX5_redraw 13 = .ok (.ireturn, 1) := by decide +kernel
theorem dX5_redraw_14 : decode cX5_redraw 14 = .ok (.aload_n 0, 1) := by decide +kernel
theorem dX5_redraw_15 : decode cX5_redraw 15 = .ok (.invokevirtual 143, 3) := by decide +kernel
theorem dX5_redraw_18 : decode cX5_redraw 18 = .ok (.istore_n 3, 1) := by decide +kernel
theorem dX5_redraw_19 : decode cX5_redraw 19 = .ok (.iload_n 3, 1) := by decide +kernel
theorem dX5_redraw_20 : decode cX5_redraw 20 = .ok (.bipush (-5), 2) := by decide +kernel
theorem dX5_redraw_22 : decode cX5_redraw 22 = .ok (.if_icmp .eq 8, 3) := by decide +kernel
theorem dX5_redraw_25 : decode cX5_redraw 25 = .ok (.bipush (-100), 2) := by decide +kernel
theorem dX5_redraw_27 : decode cX5_redraw 27 = .ok (.iload_n 3, 1) := by decide +kernel
theorem dX5_redraw_28 : decode cX5_redraw 28 = .ok (.isub, 1) := by decide +kernel
theorem dX5_redraw_29 : decode cX5_redraw 29 = .ok (.ireturn, 1) := by decide +kernel
theorem dX5_redraw_30 : decode cX5_redraw 30 = .ok (.aload_n 0, 1) := by decide +kernel
theorem dX5_redraw_31 : decode cX5_redraw 31 = .ok (.invokevirtual 146, 3) := by decide +kernel
theorem dX5_redraw_34 : decode cX5_redraw 34 = .ok (.aload_n 0, 1) := by decide +kernel
theorem dX5_redraw_35 : decode cX5_redraw 35 = .ok (.iload_n 2, 1) := by decide +kernel
theorem dX5_redraw_36 : decode cX5_redraw 36 = .ok (.invokevirtual 155, 3) := by decide +kernel
theorem dX5_redraw_39 : decode cX5_redraw 39 = .ok (.istore 4, 2) := by decide +kernel
theorem dX5_redraw_41 : decode cX5_redraw 41 = .ok (.aload_n 0, 1) := by decide +kernel
theorem dX5_redraw_42 : decode cX5_redraw 42 = .ok (.iload_n 2, 1) := by decide +kernel
theorem dX5_redraw_43 : decode cX5_redraw 43 = .ok (.iconst 1, 1) := by decide +kernel
theorem dX5_redraw_44 : decode cX5_redraw 44 = .ok (.invokevirtual 63, 3) := by decide +kernel
theorem dX5_redraw_47 : decode cX5_redraw 47 = .ok (.aload_n 0, 1) := by decide +kernel
theorem dX5_redraw_48 : decode cX5_redraw 48 = .ok (.getfield 46, 3) := by decide +kernel
theorem dX5_redraw_51 : decode cX5_redraw 51 = .ok (.iconst 1, 1) := by decide +kernel
theorem dX5_redraw_52 : decode cX5_redraw 52 = .ok (.iaload, 1) := by decide +kernel
theorem dX5_redraw_53 : decode cX5_redraw 53 = .ok (.if_icmp .ne 7, 3) := by decide +kernel
theorem dX5_redraw_56 : decode cX5_redraw 56 = .ok (.iconst 1, 1) := by decide +kernel
theorem dX5_redraw_57 : decode cX5_redraw 57 = .ok (.goto 4, 3) := by decide +kernel
theorem dX5_redraw_60 : decode cX5_redraw 60 = .ok (.iconst 0, 1) := by decide +kernel
theorem dX5_redraw_61 : decode cX5_redraw 61 = .ok (.istore 5, 2) := by decide +kernel
theorem dX5_redraw_63 : decode cX5_redraw 63 = .ok (.aload_n 0, 1) := by decide +kernel
theorem dX5_redraw_64 : decode cX5_redraw 64 = .ok (.iload_n 2, 1) := by decide +kernel
theorem dX5_redraw_65 : decode cX5_redraw 65 = .ok (.invokevirtual 71, 3) := by decide +kernel
theorem dX5_redraw_68 : decode cX5_redraw 68 = .ok (.aload_n 0, 1) := by decide +kernel
theorem dX5_redraw_69 : decode cX5_redraw 69 = .ok (.iload_n 1, 1) := by decide +kernel
theorem dX5_redraw_70 : decode cX5_redraw 70 = .ok (.invokevirtual 149, 3) := by decide +kernel
theorem dX5_redraw_73 : decode cX5_redraw 73 = .ok (.aload_n 0, 1) := by decide +kernel
theorem dX5_redraw_74 : decode cX5_redraw 74 = .ok (.iload 5, 2) := by decide +kernel
theorem dX5_redraw_76 : decode cX5_redraw 76 = .ok (.ifCond .eq 8, 3) := by decide +kernel
theorem dX5_redraw_79 : decode cX5_redraw 79 = .ok (.iload 4, 2) := by decide +kernel
theorem dX5_redraw_81 : decode cX5_redraw 81 = .ok (.goto 13, 3) := by decide +kernel
theorem dX5_redraw_84 : decode cX5_redraw 84 = .ok (.aload_n 0, 1) := by decide +kernel
theorem dX5_redraw_85 : decode cX5_redraw 85 = .ok (.aload_n 0, 1) := by decide +kernel
theorem dX5_redraw_86 : decode cX5_redraw 86 = .ok (.getfield 25, 3) := by decide +kernel
theorem dX5_redraw_89 : decode cX5_redraw 89 = .ok (.iconst 1, 1) := by decide +kernel
theorem dX5_redraw_90 : decode cX5_redraw 90 = .ok (.iaload, 1) := by decide +kernel
theorem dX5_redraw_91 : decode cX5_redraw 91 = .ok (.invokevirtual 113, 3) := by decide +kernel
theorem dX5_redraw_94 : decode cX5_redraw 94 = .ok (.invokevirtual 75, 3) := by decide +kernel
theorem dX5_redraw_97 : decode cX5_redraw 97 = .ok (.aload_n 0, 1) := by decide +kernel
theorem dX5_redraw_98 : decode cX5_redraw 98 = .ok (.aload_n 0, 1) := by decide +kernel
theorem dX5_redraw_99 : decode cX5_redraw 99 = .ok (.getfield 25, 3) := by decide +kernel
theorem dX5_redraw_102 : decode cX5_redraw 102 = .ok (.iconst 3, 1) := by decide +kernel
theorem dX5_redraw_103 : decode cX5_redraw 103 = .ok (.iaload, 1) := by decide +kernel
theorem dX5_redraw_104 : decode cX5_redraw 104 = .ok (.invokevirtual 152, 3) := by decide +kernel
theorem dX5_redraw_107 : decode cX5_redraw 107 = .ok (.ireturn, 1) := by decide +kernel
set_option maxRecDepth 20000 in
theorem ggX5_takeAway_X5_lieOf : GoodIn wsX5_takeAway wsX5_lieOf := goodIn_r _ [6, 1, 7, 8, 9, 5, 10, 30, 31, 32, 33, 34, 35, 36, 37, 38, 39, 40, 41, 42, 43, 44, 45, 46, 47] (by decide +kernel) (by decide +kernel)
set_option maxRecDepth 20000 in
theorem gX5_takeAway_X5_lieOf : GoodIn wsX5_takeAway (wsV RX5 67 RX5 yX5_lieOf wsX5_lieOf) := goodIn_app (goodIn_of _ (by decide +kernel)) ggX5_takeAway_X5_lieOf
set_option maxRecDepth 20000 in
theorem ggX5_takeAway_X5_remember : GoodIn wsX5_takeAway wsX5_remember := goodIn_r _ [14, 1, 15, 16, 17, 5, 18, 30, 31, 32, 33, 34, 35, 36, 37, 38, 39, 40, 41, 42, 43, 44, 45, 46, 47] (by decide +kernel) (by decide +kernel)
set_option maxRecDepth 20000 in
theorem gX5_takeAway_X5_remember : GoodIn wsX5_takeAway (wsV RX5 146 RX5 yX5_remember wsX5_remember) := goodIn_app (goodIn_of _ (by decide +kernel)) ggX5_takeAway_X5_remember
set_option maxRecDepth 20000 in
theorem ggX5_takeAway_X5_takesOut : GoodIn wsX5_takeAway wsX5_takesOut := goodIn_r _ [22, 23, 1, 7, 8, 9, 5, 10, 30, 31, 32, 33, 34, 35, 36, 37, 38, 39, 40, 41, 42, 43, 44, 45, 46, 47] (by decide +kernel) (by decide +kernel)
set_option maxRecDepth 20000 in
theorem gX5_takeAway_X5_takesOut : GoodIn wsX5_takeAway (wsV RX5 71 RX5 yX5_takesOut wsX5_takesOut) := goodIn_app (goodIn_of _ (by decide +kernel)) ggX5_takeAway_X5_takesOut
set_option maxRecDepth 20000 in
theorem ggX5_takeAway_X5_acted : GoodIn wsX5_takeAway wsX5_acted := goodIn_r _ [27, 28, 29, 15, 30, 31, 32, 33, 34, 35, 36, 37, 38, 39, 40, 41, 42, 43, 44, 45, 46, 47] (by decide +kernel) (by decide +kernel)
set_option maxRecDepth 20000 in
theorem gX5_takeAway_X5_acted : GoodIn wsX5_takeAway (wsV RX5 152 RX5 yX5_acted wsX5_acted) := goodIn_app (goodIn_of _ (by decide +kernel)) ggX5_takeAway_X5_acted
theorem dX5_takeAway_0 : decode cX5_takeAway 0 = .ok (.aload_n 0, 1) := by decide +kernel
theorem dX5_takeAway_1 : decode cX5_takeAway 1 = .ok (.iload_n 1, 1) := by decide +kernel
theorem dX5_takeAway_2 : decode cX5_takeAway 2 = .ok (.invokevirtual 67, 3) := by decide +kernel
theorem dX5_takeAway_5 : decode cX5_takeAway 5 = .ok (.istore_n 2, 1) := by decide +kernel
theorem dX5_takeAway_6 : decode cX5_takeAway 6 = .ok (.iload_n 2, 1) := by decide +kernel
theorem dX5_takeAway_7 : decode cX5_takeAway 7 = .ok (.bipush (-5), 2) := by decide +kernel
theorem dX5_takeAway_9 : decode cX5_takeAway 9 = .ok (.if_icmp .ne 5, 3) := by decide +kernel
theorem dX5_takeAway_12 : decode cX5_takeAway 12 = .ok (.iconst (-1), 1) := by decide +kernel
theorem dX5_takeAway_13 : decode cX5_takeAway 13 = .ok (.ireturn, 1) := by decide +kernel
theorem dX5_takeAway_14 : decode cX5_takeAway 14 = .ok (.aload_n 0, 1) := by decide +kernel
theorem dX5_takeAway_15 : decode cX5_takeAway 15 = .ok (.invokevirtual 146, 3) := by decide +kernel
theorem dX5_takeAway_18 : decode cX5_takeAway 18 = .ok (.aload_n 0, 1) := by decide +kernel
theorem dX5_takeAway_19 : decode cX5_takeAway 19 = .ok (.iload_n 2, 1) := by decide +kernel
theorem dX5_takeAway_20 : decode cX5_takeAway 20 = .ok (.invokevirtual 71, 3) := by decide +kernel
theorem dX5_takeAway_23 : decode cX5_takeAway 23 = .ok (.aload_n 0, 1) := by decide +kernel
theorem dX5_takeAway_24 : decode cX5_takeAway 24 = .ok (.aload_n 0, 1) := by decide +kernel
theorem dX5_takeAway_25 : decode cX5_takeAway 25 = .ok (.getfield 7, 3) := by decide +kernel
theorem dX5_takeAway_28 : decode cX5_takeAway 28 = .ok (.iconst 1, 1) := by decide +kernel
theorem dX5_takeAway_29 : decode cX5_takeAway 29 = .ok (.iaload, 1) := by decide +kernel
theorem dX5_takeAway_30 : decode cX5_takeAway 30 = .ok (.invokevirtual 152, 3) := by decide +kernel
theorem dX5_takeAway_33 : decode cX5_takeAway 33 = .ok (.ireturn, 1) := by decide +kernel
set_option maxRecDepth 20000 in
theorem ggX5_move_X5_lieOf : GoodIn wsX5_move wsX5_lieOf := goodIn_r _ [5, 6, 7, 8, 9, 4, 10, 95, 96, 97, 98, 99, 100, 101, 102, 103, 104, 105, 106, 107, 108, 109, 110, 111, 112] (by decide +kernel) (by decide +kernel)
set_option maxRecDepth 20000 in
theorem gX5_move_X5_lieOf : GoodIn wsX5_move (wsV RX5 67 RX5 yX5_lieOf wsX5_lieOf) := goodIn_app (goodIn_of _ (by decide +kernel)) ggX5_move_X5_lieOf
set_option maxRecDepth 20000 in
theorem ggX5_move_X5_isScene : GoodIn wsX5_move wsX5_isScene := goodIn_r _ [13, 14, 15, 16, 4, 17] (by decide +kernel) (by decide +kernel)
set_option maxRecDepth 20000 in
theorem gX5_move_X5_isScene : GoodIn wsX5_move (va_wsS RX5 158 yX5_isScene wsX5_isScene) := goodIn_app (goodIn_of _ (by decide +kernel)) ggX5_move_X5_isScene
set_option maxRecDepth 20000 in
theorem ggX5_move_X5_lastPlace : GoodIn wsX5_move wsX5_lastPlace := goodIn_r _ [21, 22, 23, 24, 4, 25, 6, 7, 8, 9, 10, 95, 96, 97, 98, 99, 100, 101, 102, 103, 104, 105, 106, 107, 108, 109, 110, 111, 112] (by decide +kernel) (by decide +kernel)
set_option maxRecDepth 20000 in
theorem gX5_move_X5_lastPlace : GoodIn wsX5_move (wsV RX5 119 RX5 yX5_lastPlace wsX5_lastPlace) := goodIn_app (goodIn_of _ (by decide +kernel)) ggX5_move_X5_lastPlace
set_option maxRecDepth 20000 in
theorem ggX5_move_X5_in : GoodIn wsX5_move wsX5_in := goodIn_r _ [17] (by decide +kernel) (by decide +kernel)
set_option maxRecDepth 20000 in
theorem gX5_move_X5_in : GoodIn wsX5_move (va_wsS RX5 59 yX5_in wsX5_in) := goodIn_app (goodIn_of _ (by decide +kernel)) ggX5_move_X5_in
set_option maxRecDepth 20000 in
theorem ggX5_move_X5_of : GoodIn wsX5_move wsX5_of := goodIn_r _ [10, 6, 95, 96, 97, 98, 99, 100, 101, 102, 103, 104, 105, 106, 107, 108, 109, 110, 111, 112] (by decide +kernel) (by decide +kernel)
set_option maxRecDepth 20000 in
theorem gX5_move_X5_of : GoodIn wsX5_move (wsV RX5 63 RX5 yX5_of wsX5_of) := goodIn_app (goodIn_of _ (by decide +kernel)) ggX5_move_X5_of
set_option maxRecDepth 20000 in
theorem ggX5_move_X5_placeOf : GoodIn wsX5_move wsX5_placeOf := goodIn_r _ [29, 7, 8, 9, 4, 10, 6, 95, 96, 97, 98, 99, 100, 101, 102, 103, 104, 105, 106, 107, 108, 109, 110, 111, 112] (by decide +kernel) (by decide +kernel)
set_option maxRecDepth 20000 in
theorem gX5_move_X5_placeOf : GoodIn wsX5_move (wsV RX5 155 RX5 yX5_placeOf wsX5_placeOf) := goodIn_app (goodIn_of _ (by decide +kernel)) ggX5_move_X5_placeOf
set_option maxRecDepth 20000 in
theorem ggX5_move_X5_remember : GoodIn wsX5_move wsX5_remember := goodIn_r _ [33, 6, 34, 35, 36, 4, 37, 95, 96, 97, 98, 99, 100, 101, 102, 103, 104, 105, 106, 107, 108, 109, 110, 111, 112] (by decide +kernel) (by decide +kernel)
set_option maxRecDepth 20000 in
theorem gX5_move_X5_remember : GoodIn wsX5_move (wsV RX5 146 RX5 yX5_remember wsX5_remember) := goodIn_app (goodIn_of _ (by decide +kernel)) ggX5_move_X5_remember
set_option maxRecDepth 20000 in
theorem ggX5_move_X5_moves : GoodIn wsX5_move wsX5_moves := goodIn_r _ [41, 42, 1, 2, 3, 4, 5, 6, 7, 8, 9, 10, 43, 44, 45, 46, 47, 48, 49, 50, 95, 96, 97, 98, 99, 100, 101, 102, 103, 104, 105, 106, 107, 108, 109, 110, 111, 112] (by decide +kernel) (by decide +kernel)
set_option maxRecDepth 20000 in
theorem gX5_move_X5_moves : GoodIn wsX5_move (wsV RX5 105 RX5 yX5_moves wsX5_moves) := goodIn_app (goodIn_of _ (by decide +kernel)) ggX5_move_X5_moves
set_option maxRecDepth 20000 in
theorem ggX5_move_X5_breaksNow : GoodIn wsX5_move wsX5_breaksNow := goodIn_r _ [54, 55, 56, 57, 58, 4, 59, 60, 6, 61, 62, 63, 64, 65, 66, 67, 7, 8, 9, 10, 68, 69, 70, 71, 72, 73, 74, 75, 76, 77, 78, 79, 80, 81, 82, 83, 84, 85, 86, 87, 88, 95, 96, 97, 98, 99, 100, 101, 102, 103, 104, 105, 106, 107, 108, 109, 110, 111, 112] (by decide +kernel) (by decide +kernel)
set_option maxRecDepth 20000 in
theorem gX5_move_X5_breaksNow : GoodIn wsX5_move (wsV RX5 109 RX5 yX5_breaksNow wsX5_breaksNow) := goodIn_app (goodIn_of _ (by decide +kernel)) ggX5_move_X5_breaksNow
set_option maxRecDepth 20000 in
theorem ggX5_move_X5_acted : GoodIn wsX5_move wsX5_acted := goodIn_r _ [92, 93, 94, 34, 95, 96, 97, 98, 99, 100, 101, 102, 103, 104, 105, 106, 107, 108, 109, 110, 111, 112] (by decide +kernel) (by decide +kernel)
set_option maxRecDepth 20000 in
theorem gX5_move_X5_acted : GoodIn wsX5_move (wsV RX5 152 RX5 yX5_acted wsX5_acted) := goodIn_app (goodIn_of _ (by decide +kernel)) ggX5_move_X5_acted
theorem dX5_move_0 : decode cX5_move 0 = .ok (.aload_n 0, 1) := by decide +kernel
theorem dX5_move_1 : decode cX5_move 1 = .ok (.iload_n 1, 1) := by decide +kernel
theorem dX5_move_2 : decode cX5_move 2 = .ok (.invokevirtual 67, 3) := by decide +kernel
theorem dX5_move_5 : decode cX5_move 5 = .ok (.istore 4, 2) := by decide +kernel
theorem dX5_move_7 : decode cX5_move 7 = .ok (.iload 4, 2) := by decide +kernel
theorem dX5_move_9 : decode cX5_move 9 = .ok (.bipush (-5), 2) := by decide +kernel
theorem dX5_move_11 : decode cX5_move 11 = .ok (.if_icmp .eq 10, 3) := by decide +kernel
theorem dX5_move_14 : decode cX5_move 14 = .ok (.iload_n 2, 1) := by decide +kernel
theorem dX5_move_15 : decode cX5_move 15 = .ok (.invokestatic 158, 3) := by decide +kernel
theorem dX5_move_18 : decode cX5_move 18 = .ok (.ifCond .ne 5, 3) := by decide +kernel
theorem dX5_move_21 : decode cX5_move 21 = .ok (.iconst (-1), 1) := by decide +kernel
theorem dX5_move_22 : decode cX5_move 22 = .ok (.ireturn, 1) := by decide +kernel
theorem dX5_move_23 : decode cX5_move 23 = .ok (.iload_n 3, 1) := by decide +kernel
theorem dX5_move_24 : decode cX5_move 24 = .ok (.i2l, 1) := by decide +kernel
theorem dX5_move_25 : decode cX5_move 25 = .ok (.lconst 0, 1) := by decide +kernel
theorem dX5_move_26 : decode cX5_move 26 = .ok (.aload_n 0, 1) := by decide +kernel
theorem dX5_move_27 : decode cX5_move 27 = .ok (.iload 4, 2) := by decide +kernel
theorem dX5_move_29 : decode cX5_move 29 = .ok (.iload_n 2, 1) := by decide +kernel
theorem dX5_move_30 : decode cX5_move 30 = .ok (.invokevirtual 119, 3) := by decide +kernel
theorem dX5_move_33 : decode cX5_move 33 = .ok (.i2l, 1) := by decide +kernel
theorem dX5_move_34 : decode cX5_move 34 = .ok (.invokestatic 59, 3) := by decide +kernel
theorem dX5_move_37 : decode cX5_move 37 = .ok (.ifCond .ne 6, 3) := by decide +kernel
theorem dX5_move_40 : decode cX5_move 40 = .ok (.bipush (-2), 2) := by decide +kernel
theorem dX5_move_42 : decode cX5_move 42 = .ok (.ireturn, 1) := by decide +kernel
theorem dX5_move_43 : decode cX5_move 43 = .ok (.aload_n 0, 1) := by decide +kernel
theorem dX5_move_44 : decode cX5_move 44 = .ok (.iload 4, 2) := by decide +kernel
theorem dX5_move_46 : decode cX5_move 46 = .ok (.iconst 1, 1) := by decide +kernel
theorem dX5_move_47 : decode cX5_move 47 = .ok (.invokevirtual 63, 3) := by decide +kernel
theorem dX5_move_50 : decode cX5_move 50 = .ok (.iload_n 2, 1) := by decide +kernel
theorem dX5_move_51 : decode cX5_move 51 = .ok (.if_icmp .ne 16, 3) := by decide +kernel
theorem dX5_move_54 : decode cX5_move 54 = .ok (.aload_n 0, 1) := by decide +kernel
theorem dX5_move_55 : decode cX5_move 55 = .ok (.iload 4, 2) := by decide +kernel
theorem dX5_move_57 : decode cX5_move 57 = .ok (.invokevirtual 155, 3) := by decide +kernel
theorem dX5_move_60 : decode cX5_move 60 = .ok (.iload_n 3, 1) := by decide +kernel
theorem dX5_move_61 : decode cX5_move 61 = .ok (.if_icmp .ne 6, 3) := by decide +kernel
theorem dX5_move_64 : decode cX5_move 64 = .ok (.bipush (-5), 2) := by decide +kernel
theorem dX5_move_66 : decode cX5_move 66 = .ok (.ireturn, 1) := by decide +kernel
theorem dX5_move_67 : decode cX5_move 67 = .ok (.aload_n 0, 1) := by decide +kernel
theorem dX5_move_68 : decode cX5_move 68 = .ok (.invokevirtual 146, 3) := by decide +kernel
theorem dX5_move_71 : decode cX5_move 71 = .ok (.aload_n 0, 1) := by decide +kernel
theorem dX5_move_72 : decode cX5_move 72 = .ok (.iload_n 1, 1) := by decide +kernel
theorem dX5_move_73 : decode cX5_move 73 = .ok (.iload_n 2, 1) := by decide +kernel
theorem dX5_move_74 : decode cX5_move 74 = .ok (.iload_n 3, 1) := by decide +kernel
theorem dX5_move_75 : decode cX5_move 75 = .ok (.invokevirtual 105, 3) := by decide +kernel
theorem dX5_move_78 : decode cX5_move 78 = .ok (.aload_n 0, 1) := by decide +kernel
theorem dX5_move_79 : decode cX5_move 79 = .ok (.aload_n 0, 1) := by decide +kernel
theorem dX5_move_80 : decode cX5_move 80 = .ok (.invokevirtual 109, 3) := by decide +kernel
theorem dX5_move_83 : decode cX5_move 83 = .ok (.invokevirtual 152, 3) := by decide +kernel
theorem dX5_move_86 : decode cX5_move 86 = .ok (.ireturn, 1) := by decide +kernel
set_option maxRecDepth 20000 in
theorem ggX5_moveScene_X5_isScene : GoodIn wsX5_moveScene wsX5_isScene := goodIn_r _ [6, 1, 7, 8, 5, 9] (by decide +kernel) (by decide +kernel)
set_option maxRecDepth 20000 in
theorem gX5_moveScene_X5_isScene : GoodIn wsX5_moveScene (va_wsS RX5 158 yX5_isScene wsX5_isScene) := goodIn_app (goodIn_of _ (by decide +kernel)) ggX5_moveScene_X5_isScene
set_option maxRecDepth 20000 in
theorem ggX5_moveScene_X5_in : GoodIn wsX5_moveScene wsX5_in := goodIn_r _ [9] (by decide +kernel) (by decide +kernel)
set_option maxRecDepth 20000 in
theorem gX5_moveScene_X5_in : GoodIn wsX5_moveScene (va_wsS RX5 59 yX5_in wsX5_in) := goodIn_app (goodIn_of _ (by decide +kernel)) ggX5_moveScene_X5_in
set_option maxRecDepth 20000 in
theorem ggX5_moveScene_X5_placeOfScene : GoodIn wsX5_moveScene wsX5_placeOfScene := goodIn_r _ [13, 2, 70, 71, 72, 73, 74, 75, 76, 77, 78, 79, 80, 81, 82, 83, 84, 85, 86, 87] (by decide +kernel) (by decide +kernel)
set_option maxRecDepth 20000 in
theorem gX5_moveScene_X5_placeOfScene : GoodIn wsX5_moveScene (wsV RX5 161 RX5 yX5_placeOfScene wsX5_placeOfScene) := goodIn_app (goodIn_of _ (by decide +kernel)) ggX5_moveScene_X5_placeOfScene
set_option maxRecDepth 20000 in
theorem ggX5_moveScene_X5_remember : GoodIn wsX5_moveScene wsX5_remember := goodIn_r _ [17, 2, 18, 19, 20, 5, 21, 70, 71, 72, 73, 74, 75, 76, 77, 78, 79, 80, 81, 82, 83, 84, 85, 86, 87] (by decide +kernel) (by decide +kernel)
set_option maxRecDepth 20000 in
theorem gX5_moveScene_X5_remember : GoodIn wsX5_moveScene (wsV RX5 146 RX5 yX5_remember wsX5_remember) := goodIn_app (goodIn_of _ (by decide +kernel)) ggX5_moveScene_X5_remember
set_option maxRecDepth 20000 in
theorem ggX5_moveScene_X5_breaksNow : GoodIn wsX5_moveScene wsX5_breaksNow := goodIn_r _ [25, 26, 27, 28, 29, 5, 30, 31, 2, 32, 33, 34, 35, 36, 37, 38, 39, 40, 41, 42, 43, 44, 45, 46, 47, 48, 49, 50, 51, 52, 53, 54, 55, 56, 57, 58, 59, 60, 61, 62, 63, 70, 71, 72, 73, 74, 75, 76, 77, 78, 79, 80, 81, 82, 83, 84, 85, 86, 87] (by decide +kernel) (by decide +kernel)
set_option maxRecDepth 20000 in
theorem gX5_moveScene_X5_breaksNow : GoodIn wsX5_moveScene (wsV RX5 109 RX5 yX5_breaksNow wsX5_breaksNow) := goodIn_app (goodIn_of _ (by decide +kernel)) ggX5_moveScene_X5_breaksNow
set_option maxRecDepth 20000 in
theorem ggX5_moveScene_X5_acted : GoodIn wsX5_moveScene wsX5_acted := goodIn_r _ [67, 68, 69, 18, 70, 71, 72, 73, 74, 75, 76, 77, 78, 79, 80, 81, 82, 83, 84, 85, 86, 87] (by decide +kernel) (by decide +kernel)
set_option maxRecDepth 20000 in
theorem gX5_moveScene_X5_acted : GoodIn wsX5_moveScene (wsV RX5 152 RX5 yX5_acted wsX5_acted) := goodIn_app (goodIn_of _ (by decide +kernel)) ggX5_moveScene_X5_acted
theorem dX5_moveScene_0 : decode cX5_moveScene 0 = .ok (.iload_n 1, 1) := by decide +kernel
theorem dX5_moveScene_1 : decode cX5_moveScene 1 = .ok (.invokestatic 158, 3) := by decide +kernel
theorem dX5_moveScene_4 : decode cX5_moveScene 4 = .ok (.ifCond .ne 5, 3) := by decide +kernel
theorem dX5_moveScene_7 : decode cX5_moveScene 7 = .ok (.iconst (-1), 1) := by decide +kernel
theorem dX5_moveScene_8 : decode cX5_moveScene 8 = .ok (.ireturn, 1) := by decide +kernel
theorem dX5_moveScene_9 : decode cX5_moveScene 9 = .ok (.iload_n 2, 1) := by decide +kernel
theorem dX5_moveScene_10 : decode cX5_moveScene 10 = .ok (.i2l, 1) := by decide +kernel
theorem dX5_moveScene_11 : decode cX5_moveScene 11 = .ok (.lconst 0, 1) := by decide +kernel
theorem dX5_moveScene_12 : decode cX5_moveScene 12 = .ok (.ldc2_w 57, 3) := by decide +kernel
theorem dX5_moveScene_15 : decode cX5_moveScene 15 = .ok (.invokestatic 59, 3) := by decide +kernel
theorem dX5_moveScene_18 : decode cX5_moveScene 18 = .ok (.ifCond .ne 6, 3) := by decide +kernel
theorem dX5_moveScene_21 : decode cX5_moveScene 21 = .ok (.bipush (-2), 2) := by decide +kernel
theorem dX5_moveScene_23 : decode cX5_moveScene 23 = .ok (.ireturn, 1) := by decide +kernel
theorem dX5_moveScene_24 : decode cX5_moveScene 24 = .ok (.aload_n 0, 1) := by decide +kernel
theorem dX5_moveScene_25 : decode cX5_moveScene 25 = .ok (.iload_n 1, 1) := by decide +kernel
theorem dX5_moveScene_26 : decode cX5_moveScene 26 = .ok (.invokevirtual 161, 3) := by decide +kernel
theorem dX5_moveScene_29 : decode cX5_moveScene 29 = .ok (.istore_n 3, 1) := by decide +kernel
theorem dX5_moveScene_30 : decode cX5_moveScene 30 = .ok (.iload_n 3, 1) := by decide +kernel
theorem dX5_moveScene_31 : decode cX5_moveScene 31 = .ok (.iload_n 2, 1) := by decide +kernel
theorem dX5_moveScene_32 : decode cX5_moveScene 32 = .ok (.if_icmp .ne 6, 3) := by decide +kernel
theorem dX5_moveScene_35 : decode cX5_moveScene 35 = .ok (.bipush (-5), 2) := by decide +kernel
theorem dX5_moveScene_37 : decode cX5_moveScene 37 = .ok (.ireturn, 1) := by decide +kernel
theorem dX5_moveScene_38 : decode cX5_moveScene 38 = .ok (.aload_n 0, 1) := by decide +kernel
theorem dX5_moveScene_39 : decode cX5_moveScene 39 = .ok (.invokevirtual 146, 3) := by decide +kernel
theorem dX5_moveScene_42 : decode cX5_moveScene 42 = .ok (.iload_n 2, 1) := by decide +kernel
theorem dX5_moveScene_43 : decode cX5_moveScene 43 = .ok (.iload_n 3, 1) := by decide +kernel
theorem dX5_moveScene_44 : decode cX5_moveScene 44 = .ok (.if_icmp .le 7, 3) := by decide +kernel
theorem dX5_moveScene_47 : decode cX5_moveScene 47 = .ok (.iconst 1, 1) := by decide +kernel
theorem dX5_moveScene_48 : decode cX5_moveScene 48 = .ok (.goto 4, 3) := by decide +kernel
theorem dX5_moveScene_51 : decode cX5_moveScene 51 = .ok (.iconst (-1), 1) := by decide +kernel
theorem dX5_moveScene_52 : decode cX5_moveScene 52 = .ok (.istore 4, 2) := by decide +kernel
theorem dX5_moveScene_54 : decode cX5_moveScene 54 = .ok (.iload_n 3, 1) := by decide +kernel
theorem dX5_moveScene_55 : decode cX5_moveScene 55 = .ok (.istore 5, 2) := by decide +kernel
theorem dX5_moveScene_57 : decode cX5_moveScene 57 = .ok (.iload 5, 2) := by decide +kernel
theorem dX5_moveScene_59 : decode cX5_moveScene 59 = .ok (.iload_n 2, 1) := by decide +kernel
theorem dX5_moveScene_60 : decode cX5_moveScene 60 = .ok (.if_icmp .eq 34, 3) := by decide +kernel
theorem dX5_moveScene_63 : decode cX5_moveScene 63 = .ok (.aload_n 0, 1) := by decide +kernel
theorem dX5_moveScene_64 : decode cX5_moveScene 64 = .ok (.getfield 7, 3) := by decide +kernel
theorem dX5_moveScene_67 : decode cX5_moveScene 67 = .ok (.iconst 2, 1) := by decide +kernel
theorem dX5_moveScene_68 : decode cX5_moveScene 68 = .ok (.iload 5, 2) := by decide +kernel
theorem dX5_moveScene_70 : decode cX5_moveScene 70 = .ok (.iadd, 1) := by decide +kernel
theorem dX5_moveScene_71 : decode cX5_moveScene 71 = .ok (.aload_n 0, 1) := by decide +kernel
theorem dX5_moveScene_72 : decode cX5_moveScene 72 = .ok (.getfield 7, 3) := by decide +kernel
theorem dX5_moveScene_75 : decode cX5_moveScene 75 = .ok (.iconst 2, 1) := by decide +kernel
theorem dX5_moveScene_76 : decode cX5_moveScene 76 = .ok (.iload 5, 2) := by decide +kernel
theorem dX5_moveScene_78 : decode cX5_moveScene 78 = .ok (.iadd, 1) := by decide +kernel
theorem dX5_moveScene_79 : decode cX5_moveScene 79 = .ok (.iload 4, 2) := by decide +kernel
theorem dX5_moveScene_81 : decode cX5_moveScene 81 = .ok (.iadd, 1) := by decide +kernel
theorem dX5_moveScene_82 : decode cX5_moveScene 82 = .ok (.iaload, 1) := by decide +kernel
theorem dX5_moveScene_83 : decode cX5_moveScene 83 = .ok (.iastore, 1) := by decide +kernel
theorem dX5_moveScene_84 : decode cX5_moveScene 84 = .ok (.iload 5, 2) := by decide +kernel
theorem dX5_moveScene_86 : decode cX5_moveScene 86 = .ok (.iload 4, 2) := by decide +kernel
theorem dX5_moveScene_88 : decode cX5_moveScene 88 = .ok (.iadd, 1) := by decide +kernel
theorem dX5_moveScene_89 : decode cX5_moveScene 89 = .ok (.istore 5, 2) := by decide +kernel
theorem dX5_moveScene_91 : decode cX5_moveScene 91 = .ok (.goto (-34), 3) := by decide +kernel
theorem dX5_moveScene_94 : decode cX5_moveScene 94 = .ok (.aload_n 0, 1) := by decide +kernel
theorem dX5_moveScene_95 : decode cX5_moveScene 95 = .ok (.getfield 7, 3) := by decide +kernel
theorem dX5_moveScene_98 : decode cX5_moveScene 98 = .ok (.iconst 2, 1) := by decide +kernel
theorem dX5_moveScene_99 : decode cX5_moveScene 99 = .ok (.iload_n 2, 1) := by decide +kernel
theorem dX5_moveScene_100 : decode cX5_moveScene 100 = .ok (.iadd, 1) := by decide +kernel
theorem dX5_moveScene_101 : decode cX5_moveScene 101 = .ok (.iload_n 1, 1) := by decide +kernel
theorem dX5_moveScene_102 : decode cX5_moveScene 102 = .ok (.iastore, 1) := by decide +kernel
theorem dX5_moveScene_103 : decode cX5_moveScene 103 = .ok (.aload_n 0, 1) := by decide +kernel
theorem dX5_moveScene_104 : decode cX5_moveScene 104 = .ok (.aload_n 0, 1) := by decide +kernel
theorem dX5_moveScene_105 : decode cX5_moveScene 105 = .ok (.invokevirtual 109, 3) := by decide +kernel
theorem dX5_moveScene_108 : decode cX5_moveScene 108 = .ok (.invokevirtual 152, 3) := by decide +kernel
theorem dX5_moveScene_111 : decode cX5_moveScene 111 = .ok (.ireturn, 1) := by decide +kernel
set_option maxRecDepth 20000 in
theorem ggX5_time_X5_lieOf : GoodIn wsX5_time wsX5_lieOf := goodIn_r _ [7, 2, 8, 9, 10, 6, 11, 29, 30, 31, 32, 33, 34, 35, 36, 37, 38, 39, 40, 41, 42, 43, 44, 45, 46] (by decide +kernel) (by decide +kernel)
set_option maxRecDepth 20000 in
theorem gX5_time_X5_lieOf : GoodIn wsX5_time (wsV RX5 67 RX5 yX5_lieOf wsX5_lieOf) := goodIn_app (goodIn_of _ (by decide +kernel)) ggX5_time_X5_lieOf
set_option maxRecDepth 20000 in
theorem ggX5_time_X5_in : GoodIn wsX5_time wsX5_in := goodIn_r _ [14] (by decide +kernel) (by decide +kernel)
set_option maxRecDepth 20000 in
theorem gX5_time_X5_in : GoodIn wsX5_time (va_wsS RX5 59 yX5_in wsX5_in) := goodIn_app (goodIn_of _ (by decide +kernel)) ggX5_time_X5_in
set_option maxRecDepth 20000 in
theorem ggX5_time_X5_of : GoodIn wsX5_time wsX5_of := goodIn_r _ [11, 2, 29, 30, 31, 32, 33, 34, 35, 36, 37, 38, 39, 40, 41, 42, 43, 44, 45, 46] (by decide +kernel) (by decide +kernel)
set_option maxRecDepth 20000 in
theorem gX5_time_X5_of : GoodIn wsX5_time (wsV RX5 63 RX5 yX5_of wsX5_of) := goodIn_app (goodIn_of _ (by decide +kernel)) ggX5_time_X5_of
set_option maxRecDepth 20000 in
theorem ggX5_time_X5_remember : GoodIn wsX5_time wsX5_remember := goodIn_r _ [18, 2, 19, 20, 21, 6, 22, 29, 30, 31, 32, 33, 34, 35, 36, 37, 38, 39, 40, 41, 42, 43, 44, 45, 46] (by decide +kernel) (by decide +kernel)
set_option maxRecDepth 20000 in
theorem gX5_time_X5_remember : GoodIn wsX5_time (wsV RX5 146 RX5 yX5_remember wsX5_remember) := goodIn_app (goodIn_of _ (by decide +kernel)) ggX5_time_X5_remember
set_option maxRecDepth 20000 in
theorem ggX5_time_X5_acted : GoodIn wsX5_time wsX5_acted := goodIn_r _ [26, 27, 28, 19, 29, 30, 31, 32, 33, 34, 35, 36, 37, 38, 39, 40, 41, 42, 43, 44, 45, 46] (by decide +kernel) (by decide +kernel)
set_option maxRecDepth 20000 in
theorem gX5_time_X5_acted : GoodIn wsX5_time (wsV RX5 152 RX5 yX5_acted wsX5_acted) := goodIn_app (goodIn_of _ (by decide +kernel)) ggX5_time_X5_acted
theorem dX5_time_0 : decode cX5_time 0 = .ok (.aload_n 0, 1) := by decide +kernel
theorem dX5_time_1 : decode cX5_time 1 = .ok (.iload_n 1, 1) := by decide +kernel
theorem dX5_time_2 : decode cX5_time 2 = .ok (.invokevirtual 67, 3) := by decide +kernel
theorem dX5_time_5 : decode cX5_time 5 = .ok (.istore_n 3, 1) := by decide +kernel
theorem dX5_time_6 : decode cX5_time 6 = .ok (.iload_n 3, 1) := by decide +kernel
theorem dX5_time_7 : decode cX5_time 7 = .ok (.bipush (-5), 2) := by decide +kernel
theorem dX5_time_9 : decode cX5_time 9 = .ok (.if_icmp .ne 5, 3) := by decide +kernel
theorem dX5_time_12 : decode cX5_time 12 = .ok (.iconst (-1), 1) := by decide +kernel
theorem dX5_time_13 : decode cX5_time 13 = .ok (.ireturn, 1) := by decide +kernel
theorem dX5_time_14 : decode cX5_time 14 = .ok (.iload_n 2, 1) := by decide +kernel
theorem dX5_time_15 : decode cX5_time 15 = .ok (.i2l, 1) := by decide +kernel
theorem dX5_time_16 : decode cX5_time 16 = .ok (.lconst 1, 1) := by decide +kernel
theorem dX5_time_17 : decode cX5_time 17 = .ok (.ldc2_w 164, 3) := by decide +kernel
theorem dX5_time_20 : decode cX5_time 20 = .ok (.invokestatic 59, 3) := by decide +kernel
theorem dX5_time_23 : decode cX5_time 23 = .ok (.ifCond .ne 6, 3) := by decide +kernel
theorem dX5_time_26 : decode cX5_time 26 = .ok (.bipush (-2), 2) := by decide +kernel
theorem dX5_time_28 : decode cX5_time 28 = .ok (.ireturn, 1) := by decide +kernel
theorem dX5_time_29 : decode cX5_time 29 = .ok (.aload_n 0, 1) := by decide +kernel
theorem dX5_time_30 : decode cX5_time 30 = .ok (.iload_n 3, 1) := by decide +kernel
theorem dX5_time_31 : decode cX5_time 31 = .ok (.iconst 2, 1) := by decide +kernel
theorem dX5_time_32 : decode cX5_time 32 = .ok (.invokevirtual 63, 3) := by decide +kernel
theorem dX5_time_35 : decode cX5_time 35 = .ok (.istore 4, 2) := by decide +kernel
theorem dX5_time_37 : decode cX5_time 37 = .ok (.iload 4, 2) := by decide +kernel
theorem dX5_time_39 : decode cX5_time 39 = .ok (.iload_n 2, 1) := by decide +kernel
theorem dX5_time_40 : decode cX5_time 40 = .ok (.if_icmp .ne 6, 3) := by decide +kernel
theorem dX5_time_43 : decode cX5_time 43 = .ok (.bipush (-5), 2) := by decide +kernel
theorem dX5_time_45 : decode cX5_time 45 = .ok (.ireturn, 1) := by decide +kernel
theorem dX5_time_46 : decode cX5_time 46 = .ok (.aload_n 0, 1) := by decide +kernel
theorem dX5_time_47 : decode cX5_time 47 = .ok (.invokevirtual 146, 3) := by decide +kernel
theorem dX5_time_50 : decode cX5_time 50 = .ok (.aload_n 0, 1) := by decide +kernel
theorem dX5_time_51 : decode cX5_time 51 = .ok (.getfield 7, 3) := by decide +kernel
theorem dX5_time_54 : decode cX5_time 54 = .ok (.bipush 7, 2) := by decide +kernel
theorem dX5_time_56 : decode cX5_time 56 = .ok (.bipush 22, 2) := by decide +kernel
theorem dX5_time_58 : decode cX5_time 58 = .ok (.iload_n 3, 1) := by decide +kernel
theorem dX5_time_59 : decode cX5_time 59 = .ok (.imul, 1) := by decide +kernel
theorem dX5_time_60 : decode cX5_time 60 = .ok (.iadd, 1) := by decide +kernel
theorem dX5_time_61 : decode cX5_time 61 = .ok (.iconst 2, 1) := by decide +kernel
theorem dX5_time_62 : decode cX5_time 62 = .ok (.iadd, 1) := by decide +kernel
theorem dX5_time_63 : decode cX5_time 63 = .ok (.iload_n 2, 1) := by decide +kernel
theorem dX5_time_64 : decode cX5_time 64 = .ok (.iastore, 1) := by decide +kernel
theorem dX5_time_65 : decode cX5_time 65 = .ok (.aload_n 0, 1) := by decide +kernel
theorem dX5_time_66 : decode cX5_time 66 = .ok (.iload 4, 2) := by decide +kernel
theorem dX5_time_68 : decode cX5_time 68 = .ok (.invokevirtual 152, 3) := by decide +kernel
theorem dX5_time_71 : decode cX5_time 71 = .ok (.ireturn, 1) := by decide +kernel
set_option maxRecDepth 20000 in
theorem ggX5_mendsOnce_X5_breaksNow : GoodIn wsX5_mendsOnce wsX5_breaksNow := goodIn_r _ [6, 7, 8, 9, 10, 5, 11, 12, 1, 13, 14, 15, 16, 17, 18, 19, 20, 21, 22, 23, 24, 25, 26, 27, 28, 29, 30, 31, 32, 33, 34, 35, 36, 37, 38, 39, 40, 41, 42, 43, 44, 82, 83, 84, 85, 86, 87, 88, 89, 90, 91, 92, 93, 94, 95, 96, 97, 98, 99] (by decide +kernel) (by decide +kernel)
set_option maxRecDepth 20000 in
theorem gX5_mendsOnce_X5_breaksNow : GoodIn wsX5_mendsOnce (wsV RX5 109 RX5 yX5_breaksNow wsX5_breaksNow) := goodIn_app (goodIn_of _ (by decide +kernel)) ggX5_mendsOnce_X5_breaksNow
set_option maxRecDepth 20000 in
theorem ggX5_mendsOnce_X5_lieOf : GoodIn wsX5_mendsOnce wsX5_lieOf := goodIn_r _ [48, 1, 20, 21, 22, 5, 23, 82, 83, 84, 85, 86, 87, 88, 89, 90, 91, 92, 93, 94, 95, 96, 97, 98, 99] (by decide +kernel) (by decide +kernel)
set_option maxRecDepth 20000 in
theorem gX5_mendsOnce_X5_lieOf : GoodIn wsX5_mendsOnce (wsV RX5 67 RX5 yX5_lieOf wsX5_lieOf) := goodIn_app (goodIn_of _ (by decide +kernel)) ggX5_mendsOnce_X5_lieOf
set_option maxRecDepth 20000 in
theorem ggX5_mendsOnce_X5_of : GoodIn wsX5_mendsOnce wsX5_of := goodIn_r _ [23, 1, 82, 83, 84, 85, 86, 87, 88, 89, 90, 91, 92, 93, 94, 95, 96, 97, 98, 99] (by decide +kernel) (by decide +kernel)
set_option maxRecDepth 20000 in
theorem gX5_mendsOnce_X5_of : GoodIn wsX5_mendsOnce (wsV RX5 63 RX5 yX5_of wsX5_of) := goodIn_app (goodIn_of _ (by decide +kernel)) ggX5_mendsOnce_X5_of
set_option maxRecDepth 20000 in
theorem ggX5_mendsOnce_X5_bestPlaceOf : GoodIn wsX5_mendsOnce wsX5_bestPlaceOf := goodIn_r _ [52, 53, 54, 55, 5, 56, 1, 57, 58, 59, 60, 61, 62, 63, 64, 65, 45, 46, 47, 48, 20, 21, 22, 23, 66, 67, 68, 69, 70, 71, 72, 73, 2, 3, 4, 6, 7, 8, 9, 10, 11, 12, 13, 14, 15, 16, 17, 18, 19, 24, 25, 26, 27, 28, 29, 30, 31, 32, 33, 34, 35, 36, 37, 38, 39, 40, 41, 42, 43, 44, 74, 75, 76, 77, 78, 79, 80, 81, 82, 83, 84, 85, 86, 87, 88, 89, 90, 91, 92, 93, 94, 95, 96, 97, 98, 99] (by decide +kernel) (by decide +kernel)
set_option maxRecDepth 20000 in
theorem gX5_mendsOnce_X5_bestPlaceOf : GoodIn wsX5_mendsOnce (wsV RX5 166 RX5 yX5_bestPlaceOf wsX5_bestPlaceOf) := goodIn_app (goodIn_of _ (by decide +kernel)) ggX5_mendsOnce_X5_bestPlaceOf
set_option maxRecDepth 20000 in
theorem ggX5_mendsOnce_X5_breaksIfMoved : GoodIn wsX5_mendsOnce wsX5_breaksIfMoved := goodIn_r _ [56, 1, 57, 58, 59, 5, 60, 61, 62, 63, 64, 65, 45, 46, 47, 48, 20, 21, 22, 23, 66, 67, 68, 69, 70, 71, 72, 73, 2, 3, 4, 6, 7, 8, 9, 10, 11, 12, 13, 14, 15, 16, 17, 18, 19, 24, 25, 26, 27, 28, 29, 30, 31, 32, 33, 34, 35, 36, 37, 38, 39, 40, 41, 42, 43, 44, 82, 83, 84, 85, 86, 87, 88, 89, 90, 91, 92, 93, 94, 95, 96, 97, 98, 99] (by decide +kernel) (by decide +kernel)
set_option maxRecDepth 20000 in
theorem gX5_mendsOnce_X5_breaksIfMoved : GoodIn wsX5_mendsOnce (wsV RX5 116 RX5 yX5_breaksIfMoved wsX5_breaksIfMoved) := goodIn_app (goodIn_of _ (by decide +kernel)) ggX5_mendsOnce_X5_breaksIfMoved
set_option maxRecDepth 20000 in
theorem ggX5_mendsOnce_X5_moves : GoodIn wsX5_mendsOnce wsX5_moves := goodIn_r _ [64, 65, 45, 46, 47, 5, 48, 1, 20, 21, 22, 23, 66, 67, 68, 69, 70, 71, 72, 73, 82, 83, 84, 85, 86, 87, 88, 89, 90, 91, 92, 93, 94, 95, 96, 97, 98, 99] (by decide +kernel) (by decide +kernel)
set_option maxRecDepth 20000 in
theorem gX5_mendsOnce_X5_moves : GoodIn wsX5_mendsOnce (wsV RX5 105 RX5 yX5_moves wsX5_moves) := goodIn_app (goodIn_of _ (by decide +kernel)) ggX5_mendsOnce_X5_moves
theorem dX5_mendsOnce_0 : decode cX5_mendsOnce 0 = .ok (.aload_n 0, 1) := by decide +kernel
theorem dX5_mendsOnce_1 : decode cX5_mendsOnce 1 = .ok (.invokevirtual 109, 3) := by decide +kernel
theorem dX5_mendsOnce_4 : decode cX5_mendsOnce 4 = .ok (.istore_n 2, 1) := by decide +kernel
theorem dX5_mendsOnce_5 : decode cX5_mendsOnce 5 = .ok (.iconst 0, 1) := by decide +kernel
theorem dX5_mendsOnce_6 : decode cX5_mendsOnce 6 = .ok (.istore_n 3, 1) := by decide +kernel
theorem dX5_mendsOnce_7 : decode cX5_mendsOnce 7 = .ok (.iload_n 3, 1) := by decide +kernel
theorem dX5_mendsOnce_8 : decode cX5_mendsOnce 8 = .ok (.aload_n 0, 1) := by decide +kernel
theorem dX5_mendsOnce_9 : decode cX5_mendsOnce 9 = .ok (.getfield 7, 3) := by decide +kernel
theorem dX5_mendsOnce_12 : decode cX5_mendsOnce 12 = .ok (.iconst 0, 1) := by decide +kernel
theorem dX5_mendsOnce_13 : decode cX5_mendsOnce 13 = .ok (.iaload, 1) := by decide +kernel
theorem dX5_mendsOnce_14 : decode cX5_mendsOnce 14 = .ok (.if_icmp .ge 64, 3) := by decide +kernel
theorem dX5_mendsOnce_17 : decode cX5_mendsOnce 17 = .ok (.aload_n 0, 1) := by decide +kernel
theorem dX5_mendsOnce_18 : decode cX5_mendsOnce 18 = .ok (.iload_n 3, 1) := by decide +kernel
theorem dX5_mendsOnce_19 : decode cX5_mendsOnce 19 = .ok (.invokevirtual 67, 3) := by decide +kernel
theorem dX5_mendsOnce_22 : decode cX5_mendsOnce 22 = .ok (.istore 4, 2) := by decide +kernel
theorem dX5_mendsOnce_24 : decode cX5_mendsOnce 24 = .ok (.iload 4, 2) := by decide +kernel
theorem dX5_mendsOnce_26 : decode cX5_mendsOnce 26 = .ok (.bipush (-5), 2) := by decide +kernel
theorem dX5_mendsOnce_28 : decode cX5_mendsOnce 28 = .ok (.if_icmp .eq 44, 3) := by decide +kernel
theorem dX5_mendsOnce_31 : decode cX5_mendsOnce 31 = .ok (.aload_n 0, 1) := by decide +kernel
theorem dX5_mendsOnce_32 : decode cX5_mendsOnce 32 = .ok (.iload 4, 2) := by decide +kernel
theorem dX5_mendsOnce_34 : decode cX5_mendsOnce 34 = .ok (.iconst 1, 1) := by decide +kernel
theorem dX5_mendsOnce_35 : decode cX5_mendsOnce 35 = .ok (.invokevirtual 63, 3) := by decide +kernel
theorem dX5_mendsOnce_38 : decode cX5_mendsOnce 38 = .ok (.iload_n 1, 1) := by decide +kernel
theorem dX5_mendsOnce_39 : decode cX5_mendsOnce 39 = .ok (.if_icmp .ne 33, 3) := by decide +kernel
theorem dX5_mendsOnce_42 : decode cX5_mendsOnce 42 = .ok (.aload_n 0, 1) := by decide +kernel
theorem dX5_mendsOnce_43 : decode cX5_mendsOnce 43 = .ok (.iload_n 3, 1) := by decide +kernel
theorem dX5_mendsOnce_44 : decode cX5_mendsOnce 44 = .ok (.iload_n 1, 1) := by decide +kernel
theorem dX5_mendsOnce_45 : decode cX5_mendsOnce 45 = .ok (.invokevirtual 166, 3) := by decide +kernel
theorem dX5_mendsOnce_48 : decode cX5_mendsOnce 48 = .ok (.istore 5, 2) := by decide +kernel
theorem dX5_mendsOnce_50 : decode cX5_mendsOnce 50 = .ok (.aload_n 0, 1) := by decide +kernel
theorem dX5_mendsOnce_51 : decode cX5_mendsOnce 51 = .ok (.iload_n 3, 1) := by decide +kernel
theorem dX5_mendsOnce_52 : decode cX5_mendsOnce 52 = .ok (.iload_n 1, 1) := by decide +kernel
theorem dX5_mendsOnce_53 : decode cX5_mendsOnce 53 = .ok (.iload 5, 2) := by decide +kernel
theorem dX5_mendsOnce_55 : decode cX5_mendsOnce 55 = .ok (.invokevirtual 116, 3) := by decide +kernel
theorem dX5_mendsOnce_58 : decode cX5_mendsOnce 58 = .ok (.iload_n 2, 1) := by decide +kernel
theorem dX5_mendsOnce_59 : decode cX5_mendsOnce 59 = .ok (.if_icmp .ge 13, 3) := by decide +kernel
theorem dX5_mendsOnce_62 : decode cX5_mendsOnce 62 = .ok (.aload_n 0, 1) := by decide +kernel
theorem dX5_mendsOnce_63 : decode cX5_mendsOnce 63 = .ok (.iload_n 3, 1) := by decide +kernel
theorem dX5_mendsOnce_64 : decode cX5_mendsOnce 64 = .ok (.iload_n 1, 1) := by decide +kernel
theorem dX5_mendsOnce_65 : decode cX5_mendsOnce 65 = .ok (.iload 5, 2) := by decide +kernel
theorem dX5_mendsOnce_67 : decode cX5_mendsOnce 67 = .ok (.invokevirtual 105, 3) := by decide +kernel
theorem dX5_mendsOnce_70 : decode cX5_mendsOnce 70 = .ok (.iconst 1, 1) := by decide +kernel
theorem dX5_mendsOnce_71 : decode cX5_mendsOnce 71 = .ok (.ireturn, 1) := by decide +kernel
theorem dX5_mendsOnce_72 : decode cX5_mendsOnce 72 = .ok (.iinc 3 1, 3) := by decide +kernel
theorem dX5_mendsOnce_75 : decode cX5_mendsOnce 75 = .ok (.goto (-68), 3) := by decide +kernel
theorem dX5_mendsOnce_78 : decode cX5_mendsOnce 78 = .ok (.iconst 0, 1) := by decide +kernel
theorem dX5_mendsOnce_79 : decode cX5_mendsOnce 79 = .ok (.ireturn, 1) := by decide +kernel
set_option maxRecDepth 20000 in
theorem ggX5_mend_X5_isScene : GoodIn wsX5_mend wsX5_isScene := goodIn_r _ [4, 5, 6, 7, 3, 8] (by decide +kernel) (by decide +kernel)
set_option maxRecDepth 20000 in
theorem gX5_mend_X5_isScene : GoodIn wsX5_mend (va_wsS RX5 158 yX5_isScene wsX5_isScene) := goodIn_app (goodIn_of _ (by decide +kernel)) ggX5_mend_X5_isScene
set_option maxRecDepth 20000 in
theorem ggX5_mend_X5_remember : GoodIn wsX5_mend wsX5_remember := goodIn_r _ [12, 13, 14, 15, 16, 3, 17, 104, 105, 106, 107, 108, 109, 110, 111, 112, 113, 114, 115, 116, 117, 118, 119, 120, 121] (by decide +kernel) (by decide +kernel)
set_option maxRecDepth 20000 in
theorem gX5_mend_X5_remember : GoodIn wsX5_mend (wsV RX5 146 RX5 yX5_remember wsX5_remember) := goodIn_app (goodIn_of _ (by decide +kernel)) ggX5_mend_X5_remember
set_option maxRecDepth 20000 in
theorem ggX5_mend_X5_mendsOnce : GoodIn wsX5_mend wsX5_mendsOnce := goodIn_r _ [21, 13, 22, 23, 24, 3, 25, 26, 27, 28, 29, 30, 31, 32, 33, 34, 35, 36, 37, 38, 39, 40, 41, 42, 43, 44, 45, 46, 47, 48, 49, 50, 51, 52, 53, 54, 55, 56, 57, 58, 59, 60, 61, 62, 63, 64, 65, 66, 67, 68, 69, 70, 71, 72, 73, 74, 75, 76, 15, 16, 17, 77, 78, 79, 80, 81, 82, 83, 84, 85, 86, 87, 88, 89, 90, 91, 92, 93, 94, 95, 96, 97, 104, 105, 106, 107, 108, 109, 110, 111, 112, 113, 114, 115, 116, 117, 118, 119, 120, 121] (by decide +kernel) (by decide +kernel)
set_option maxRecDepth 20000 in
theorem gX5_mend_X5_mendsOnce : GoodIn wsX5_mend (wsV RX5 169 RX5 yX5_mendsOnce wsX5_mendsOnce) := goodIn_app (goodIn_of _ (by decide +kernel)) ggX5_mend_X5_mendsOnce
set_option maxRecDepth 20000 in
theorem ggX5_mend_X5_acted : GoodIn wsX5_mend wsX5_acted := goodIn_r _ [101, 102, 103, 14, 104, 105, 106, 107, 108, 109, 110, 111, 112, 113, 114, 115, 116, 117, 118, 119, 120, 121] (by decide +kernel) (by decide +kernel)
set_option maxRecDepth 20000 in
theorem gX5_mend_X5_acted : GoodIn wsX5_mend (wsV RX5 152 RX5 yX5_acted wsX5_acted) := goodIn_app (goodIn_of _ (by decide +kernel)) ggX5_mend_X5_acted
theorem dX5_mend_0 : decode cX5_mend 0 = .ok (.iload_n 1, 1) := by decide +kernel
theorem dX5_mend_1 : decode cX5_mend 1 = .ok (.invokestatic 158, 3) := by decide +kernel
theorem dX5_mend_4 : decode cX5_mend 4 = .ok (.ifCond .ne 5, 3) := by decide +kernel
theorem dX5_mend_7 : decode cX5_mend 7 = .ok (.iconst (-1), 1) := by decide +kernel
theorem dX5_mend_8 : decode cX5_mend 8 = .ok (.ireturn, 1) := by decide +kernel
theorem dX5_mend_9 : decode cX5_mend 9 = .ok (.aload_n 0, 1) := by decide +kernel
theorem dX5_mend_10 : decode cX5_mend 10 = .ok (.invokevirtual 146, 3) := by decide +kernel
theorem dX5_mend_13 : decode cX5_mend 13 = .ok (.iconst 0, 1) := by decide +kernel
theorem dX5_mend_14 : decode cX5_mend 14 = .ok (.istore_n 2, 1) := by decide +kernel
theorem dX5_mend_15 : decode cX5_mend 15 = .ok (.iload_n 2, 1) := by decide +kernel
theorem dX5_mend_16 : decode cX5_mend 16 = .ok (.iconst 2, 1) := by decide +kernel
theorem dX5_mend_17 : decode cX5_mend 17 = .ok (.if_icmp .ge 17, 3) := by decide +kernel
theorem dX5_mend_20 : decode cX5_mend 20 = .ok (.aload_n 0, 1) := by decide +kernel
theorem dX5_mend_21 : decode cX5_mend 21 = .ok (.iload_n 1, 1) := by decide +kernel
theorem dX5_mend_22 : decode cX5_mend 22 = .ok (.invokevirtual 169, 3) := by decide +kernel
theorem dX5_mend_25 : decode cX5_mend 25 = .ok (.ifCond .eq 9, 3) := by decide +kernel
theorem dX5_mend_28 : decode cX5_mend 28 = .ok (.iinc 2 1, 3) := by decide +kernel
theorem dX5_mend_31 : decode cX5_mend 31 = .ok (.goto (-16), 3) := by decide +kernel
theorem dX5_mend_34 : decode cX5_mend 34 = .ok (.iload_n 2, 1) := by decide +kernel
theorem dX5_mend_35 : decode cX5_mend 35 = .ok (.ifCond .ne 8, 3) := by decide +kernel
theorem dX5_mend_38 : decode cX5_mend 38 = .ok (.bipush (-5), 2) := by decide +kernel
theorem dX5_mend_40 : decode cX5_mend 40 = .ok (.goto 8, 3) := by decide +kernel
theorem dX5_mend_43 : decode cX5_mend 43 = .ok (.aload_n 0, 1) := by decide +kernel
theorem dX5_mend_44 : decode cX5_mend 44 = .ok (.iload_n 2, 1) := by decide +kernel
theorem dX5_mend_45 : decode cX5_mend 45 = .ok (.invokevirtual 152, 3) := by decide +kernel
theorem dX5_mend_48 : decode cX5_mend 48 = .ok (.ireturn, 1) := by decide +kernel
theorem dX5_undo_0 : decode cX5_undo 0 = .ok (.aload_n 0, 1) := by decide +kernel
theorem dX5_undo_1 : decode cX5_undo 1 = .ok (.getfield 53, 3) := by decide +kernel
theorem dX5_undo_4 : decode cX5_undo 4 = .ok (.ifCond .ne 6, 3) := by decide +kernel
theorem dX5_undo_7 : decode cX5_undo 7 = .ok (.bipush (-5), 2) := by decide +kernel
theorem dX5_undo_9 : decode cX5_undo 9 = .ok (.ireturn, 1) := by decide +kernel
theorem dX5_undo_10 : decode cX5_undo 10 = .ok (.aload_n 0, 1) := by decide +kernel
theorem dX5_undo_11 : decode cX5_undo 11 = .ok (.dup, 1) := by decide +kernel
theorem dX5_undo_12 : decode cX5_undo 12 = .ok (.getfield 53, 3) := by decide +kernel
theorem dX5_undo_15 : decode cX5_undo 15 = .ok (.iconst 1, 1) := by decide +kernel
theorem dX5_undo_16 : decode cX5_undo 16 = .ok (.isub, 1) := by decide +kernel
theorem dX5_undo_17 : decode cX5_undo 17 = .ok (.putfield 53, 3) := by decide +kernel
theorem dX5_undo_20 : decode cX5_undo 20 = .ok (.iconst 0, 1) := by decide +kernel
theorem dX5_undo_21 : decode cX5_undo 21 = .ok (.istore_n 1, 1) := by decide +kernel
theorem dX5_undo_22 : decode cX5_undo 22 = .ok (.iload_n 1, 1) := by decide +kernel
theorem dX5_undo_23 : decode cX5_undo 23 = .ok (.sipush 227, 3) := by decide +kernel
theorem dX5_undo_26 : decode cX5_undo 26 = .ok (.if_icmp .ge 30, 3) := by decide +kernel
theorem dX5_undo_29 : decode cX5_undo 29 = .ok (.aload_n 0, 1) := by decide +kernel
theorem dX5_undo_30 : decode cX5_undo 30 = .ok (.getfield 7, 3) := by decide +kernel
theorem dX5_undo_33 : decode cX5_undo 33 = .ok (.iload_n 1, 1) := by decide +kernel
theorem dX5_undo_34 : decode cX5_undo 34 = .ok (.aload_n 0, 1) := by decide +kernel
theorem dX5_undo_35 : decode cX5_undo 35 = .ok (.getfield 19, 3) := by decide +kernel
theorem dX5_undo_38 : decode cX5_undo 38 = .ok (.sipush 227, 3) := by decide +kernel
theorem dX5_undo_41 : decode cX5_undo 41 = .ok (.aload_n 0, 1) := by decide +kernel
theorem dX5_undo_42 : decode cX5_undo 42 = .ok (.getfield 53, 3) := by decide +kernel
theorem dX5_undo_45 : decode cX5_undo 45 = .ok (.imul, 1) := by decide +kernel
theorem dX5_undo_46 : decode cX5_undo 46 = .ok (.iload_n 1, 1) := by decide +kernel
theorem dX5_undo_47 : decode cX5_undo 47 = .ok (.iadd, 1) := by decide +kernel
theorem dX5_undo_48 : decode cX5_undo 48 = .ok (.iaload, 1) := by decide +kernel
theorem dX5_undo_49 : decode cX5_undo 49 = .ok (.iastore, 1) := by decide +kernel
theorem dX5_undo_50 : decode cX5_undo 50 = .ok (.iinc 1 1, 3) := by decide +kernel
theorem dX5_undo_53 : decode cX5_undo 53 = .ok (.goto (-31), 3) := by decide +kernel
theorem dX5_undo_56 : decode cX5_undo 56 = .ok (.aload_n 0, 1) := by decide +kernel
theorem dX5_undo_57 : decode cX5_undo 57 = .ok (.getfield 53, 3) := by decide +kernel
theorem dX5_undo_60 : decode cX5_undo 60 = .ok (.ireturn, 1) := by decide +kernel
set_option maxRecDepth 20000 in
theorem ggX5_keep_X5_copy : GoodIn wsX5_keep wsX5_copy := goodIn_r _ [7] (by decide +kernel) (by decide +kernel)
set_option maxRecDepth 20000 in
theorem gX5_keep_X5_copy : GoodIn wsX5_keep (va_wsS RX5 49 yX5_copy wsX5_copy) := goodIn_app (goodIn_of _ (by decide +kernel)) ggX5_keep_X5_copy
theorem dX5_keep_0 : decode cX5_keep 0 = .ok (.aload_n 0, 1) := by decide +kernel
theorem dX5_keep_1 : decode cX5_keep 1 = .ok (.getfield 7, 3) := by decide +kernel
theorem dX5_keep_4 : decode cX5_keep 4 = .ok (.aload_n 0, 1) := by decide +kernel
theorem dX5_keep_5 : decode cX5_keep 5 = .ok (.getfield 22, 3) := by decide +kernel
theorem dX5_keep_8 : decode cX5_keep 8 = .ok (.invokestatic 49, 3) := by decide +kernel
theorem dX5_keep_11 : decode cX5_keep 11 = .ok (.aload_n 0, 1) := by decide +kernel
theorem dX5_keep_12 : decode cX5_keep 12 = .ok (.iconst 1, 1) := by decide +kernel
theorem dX5_keep_13 : decode cX5_keep 13 = .ok (.putfield 172, 3) := by decide +kernel
theorem dX5_keep_16 : decode cX5_keep 16 = .ok (.aload_n 0, 1) := by decide +kernel
theorem dX5_keep_17 : decode cX5_keep 17 = .ok (.getfield 7, 3) := by decide +kernel
theorem dX5_keep_20 : decode cX5_keep 20 = .ok (.iconst 1, 1) := by decide +kernel
theorem dX5_keep_21 : decode cX5_keep 21 = .ok (.iaload, 1) := by decide +kernel
theorem dX5_keep_22 : decode cX5_keep 22 = .ok (.ireturn, 1) := by decide +kernel
set_option maxRecDepth 20000 in
theorem ggX5_restore_X5_remember : GoodIn wsX5_restore wsX5_remember := goodIn_r _ [8, 3, 9, 10, 11, 7, 12, 19, 20, 21, 22, 23, 24, 25, 26, 27, 28, 29, 30, 31, 32, 33, 34, 35, 36] (by decide +kernel) (by decide +kernel)
set_option maxRecDepth 20000 in
theorem gX5_restore_X5_remember : GoodIn wsX5_restore (wsV RX5 146 RX5 yX5_remember wsX5_remember) := goodIn_app (goodIn_of _ (by decide +kernel)) ggX5_restore_X5_remember
set_option maxRecDepth 20000 in
theorem ggX5_restore_X5_copy : GoodIn wsX5_restore wsX5_copy := goodIn_r _ [12] (by decide +kernel) (by decide +kernel)
set_option maxRecDepth 20000 in
theorem gX5_restore_X5_copy : GoodIn wsX5_restore (va_wsS RX5 49 yX5_copy wsX5_copy) := goodIn_app (goodIn_of _ (by decide +kernel)) ggX5_restore_X5_copy
set_option maxRecDepth 20000 in
theorem ggX5_restore_X5_acted : GoodIn wsX5_restore wsX5_acted := goodIn_r _ [16, 17, 18, 9, 19, 20, 21, 22, 23, 24, 25, 26, 27, 28, 29, 30, 31, 32, 33, 34, 35, 36] (by decide +kernel) (by decide +kernel)
set_option maxRecDepth 20000 in
theorem gX5_restore_X5_acted : GoodIn wsX5_restore (wsV RX5 152 RX5 yX5_acted wsX5_acted) := goodIn_app (goodIn_of _ (by decide +kernel)) ggX5_restore_X5_acted
theorem dX5_restore_0 : decode cX5_restore 0 = .ok (.aload_n 0, 1) := by decide +kernel
theorem dX5_restore_1 : decode cX5_restore 1 = .ok (.getfield 172, 3) := by decide +kernel
theorem dX5_restore_4 : decode cX5_restore 4 = .ok (.ifCond .ne 6, 3) := by decide +kernel
theorem dX5_restore_7 : decode cX5_restore 7 = .ok (.bipush (-5), 2) := by decide +kernel
theorem dX5_restore_9 : decode cX5_restore 9 = .ok (.ireturn, 1) := by decide +kernel
theorem dX5_restore_10 : decode cX5_restore 10 = .ok (.aload_n 0, 1) := by decide +kernel
theorem dX5_restore_11 : decode cX5_restore 11 = .ok (.invokevirtual 146, 3) := by decide +kernel
theorem dX5_restore_14 : decode cX5_restore 14 = .ok (.aload_n 0, 1) := by decide +kernel
theorem dX5_restore_15 : decode cX5_restore 15 = .ok (.getfield 22, 3) := by decide +kernel
theorem dX5_restore_18 : decode cX5_restore 18 = .ok (.aload_n 0, 1) := by decide +kernel
theorem dX5_restore_19 : decode cX5_restore 19 = .ok (.getfield 7, 3) := by decide +kernel
theorem dX5_restore_22 : decode cX5_restore 22 = .ok (.invokestatic 49, 3) := by decide +kernel
theorem dX5_restore_25 : decode cX5_restore 25 = .ok (.aload_n 0, 1) := by decide +kernel
theorem dX5_restore_26 : decode cX5_restore 26 = .ok (.aload_n 0, 1) := by decide +kernel
theorem dX5_restore_27 : decode cX5_restore 27 = .ok (.getfield 7, 3) := by decide +kernel
theorem dX5_restore_30 : decode cX5_restore 30 = .ok (.iconst 1, 1) := by decide +kernel
theorem dX5_restore_31 : decode cX5_restore 31 = .ok (.iaload, 1) := by decide +kernel
theorem dX5_restore_32 : decode cX5_restore 32 = .ok (.invokevirtual 152, 3) := by decide +kernel
theorem dX5_restore_35 : decode cX5_restore 35 = .ok (.ireturn, 1) := by decide +kernel
set_option maxRecDepth 20000 in
theorem ggX5_rankOf_X5_findsOrder : GoodIn wsX5_rankOf wsX5_findsOrder := goodIn_r _ [6, 7, 1, 8, 9, 10, 5, 11, 12, 13, 14, 15, 16, 17, 18, 19, 20, 21, 22, 23, 24, 25, 26, 27, 28, 29] (by decide +kernel) (by decide +kernel)
set_option maxRecDepth 20000 in
theorem gX5_rankOf_X5_findsOrder : GoodIn wsX5_rankOf (wsV RX5 92 RX5 yX5_findsOrder wsX5_findsOrder) := goodIn_app (goodIn_of _ (by decide +kernel)) ggX5_rankOf_X5_findsOrder
theorem dX5_rankOf_0 : decode cX5_rankOf 0 = .ok (.aload_n 0, 1) := by decide +kernel
theorem dX5_rankOf_1 : decode cX5_rankOf 1 = .ok (.invokevirtual 92, 3) := by decide +kernel
theorem dX5_rankOf_4 : decode cX5_rankOf 4 = .ok (.iconst 0, 1) := by decide +kernel
theorem dX5_rankOf_5 : decode cX5_rankOf 5 = .ok (.istore_n 2, 1) := by decide +kernel
theorem dX5_rankOf_6 : decode cX5_rankOf 6 = .ok (.aload_n 0, 1) := by decide +kernel
theorem dX5_rankOf_7 : decode cX5_rankOf 7 = .ok (.getfield 28, 3) := by decide +kernel
theorem dX5_rankOf_10 : decode cX5_rankOf 10 = .ok (.iload_n 2, 1) := by decide +kernel
theorem dX5_rankOf_11 : decode cX5_rankOf 11 = .ok (.iaload, 1) := by decide +kernel
theorem dX5_rankOf_12 : decode cX5_rankOf 12 = .ok (.iload_n 1, 1) := by decide +kernel
theorem dX5_rankOf_13 : decode cX5_rankOf 13 = .ok (.if_icmp .eq 9, 3) := by decide +kernel
theorem dX5_rankOf_16 : decode cX5_rankOf 16 = .ok (.iinc 2 1, 3) := by decide +kernel
theorem dX5_rankOf_19 : decode cX5_rankOf 19 = .ok (.goto (-13), 3) := by decide +kernel
theorem dX5_rankOf_22 : decode cX5_rankOf 22 = .ok (.iload_n 2, 1) := by decide +kernel
theorem dX5_rankOf_23 : decode cX5_rankOf 23 = .ok (.ireturn, 1) := by decide +kernel
set_option maxRecDepth 20000 in
theorem ggX5_beginOf_X5_rankOf : GoodIn wsX5_beginOf wsX5_rankOf := goodIn_r _ [6, 1, 7, 8, 9, 5, 10, 11, 12, 13, 14, 15, 16, 17, 18, 19, 20, 21, 22, 23, 24, 25, 26, 27, 28, 29, 30, 31, 32, 33] (by decide +kernel) (by decide +kernel)
set_option maxRecDepth 20000 in
theorem gX5_beginOf_X5_rankOf : GoodIn wsX5_beginOf (wsV RX5 175 RX5 yX5_rankOf wsX5_rankOf) := goodIn_app (goodIn_of _ (by decide +kernel)) ggX5_beginOf_X5_rankOf
set_option maxRecDepth 20000 in
theorem ggX5_beginOf_X5_of : GoodIn wsX5_beginOf wsX5_of := goodIn_r _ [15, 11, 16, 17, 18, 19, 20, 21, 22, 23, 24, 25, 26, 27, 28, 29, 30, 31, 32, 33] (by decide +kernel) (by decide +kernel)
set_option maxRecDepth 20000 in
theorem gX5_beginOf_X5_of : GoodIn wsX5_beginOf (wsV RX5 63 RX5 yX5_of wsX5_of) := goodIn_app (goodIn_of _ (by decide +kernel)) ggX5_beginOf_X5_of
theorem dX5_beginOf_0 : decode cX5_beginOf 0 = .ok (.aload_n 0, 1) := by decide +kernel
theorem dX5_beginOf_1 : decode cX5_beginOf 1 = .ok (.iload_n 1, 1) := by decide +kernel
theorem dX5_beginOf_2 : decode cX5_beginOf 2 = .ok (.invokevirtual 175, 3) := by decide +kernel
theorem dX5_beginOf_5 : decode cX5_beginOf 5 = .ok (.istore_n 2, 1) := by decide +kernel
theorem dX5_beginOf_6 : decode cX5_beginOf 6 = .ok (.iconst 0, 1) := by decide +kernel
theorem dX5_beginOf_7 : decode cX5_beginOf 7 = .ok (.istore_n 3, 1) := by decide +kernel
theorem dX5_beginOf_8 : decode cX5_beginOf 8 = .ok (.iconst 0, 1) := by decide +kernel
theorem dX5_beginOf_9 : decode cX5_beginOf 9 = .ok (.istore 4, 2) := by decide +kernel
theorem dX5_beginOf_11 : decode cX5_beginOf 11 = .ok (.iload 4, 2) := by decide +kernel
theorem dX5_beginOf_13 : decode cX5_beginOf 13 = .ok (.iload_n 2, 1) := by decide +kernel
theorem dX5_beginOf_14 : decode cX5_beginOf 14 = .ok (.if_icmp .ge 24, 3) := by decide +kernel
theorem dX5_beginOf_17 : decode cX5_beginOf 17 = .ok (.iload_n 3, 1) := by decide +kernel
theorem dX5_beginOf_18 : decode cX5_beginOf 18 = .ok (.aload_n 0, 1) := by decide +kernel
theorem dX5_beginOf_19 : decode cX5_beginOf 19 = .ok (.aload_n 0, 1) := by decide +kernel
theorem dX5_beginOf_20 : decode cX5_beginOf 20 = .ok (.getfield 28, 3) := by decide +kernel
theorem dX5_beginOf_23 : decode cX5_beginOf 23 = .ok (.iload 4, 2) := by decide +kernel
theorem dX5_beginOf_25 : decode cX5_beginOf 25 = .ok (.iaload, 1) := by decide +kernel
theorem dX5_beginOf_26 : decode cX5_beginOf 26 = .ok (.iconst 2, 1) := by decide +kernel
theorem dX5_beginOf_27 : decode cX5_beginOf 27 = .ok (.invokevirtual 63, 3) := by decide +kernel
theorem dX5_beginOf_30 : decode cX5_beginOf 30 = .ok (.iadd, 1) := by decide +kernel
theorem dX5_beginOf_31 : decode cX5_beginOf 31 = .ok (.istore_n 3, 1) := by decide +kernel
theorem dX5_beginOf_32 : decode cX5_beginOf 32 = .ok (.iinc 4 1, 3) := by decide +kernel
theorem dX5_beginOf_35 : decode cX5_beginOf 35 = .ok (.goto (-24), 3) := by decide +kernel
theorem dX5_beginOf_38 : decode cX5_beginOf 38 = .ok (.iload_n 3, 1) := by decide +kernel
theorem dX5_beginOf_39 : decode cX5_beginOf 39 = .ok (.ireturn, 1) := by decide +kernel
set_option maxRecDepth 20000 in
theorem ggX5_breaksIn_X5_goesThrough : GoodIn wsX5_breaksIn wsX5_goesThrough := goodIn_r _ [7, 1, 8, 9, 10, 11, 12, 13, 14, 15, 6, 16, 17, 18, 19, 20, 21, 22, 23, 24, 25, 26, 27, 28, 29, 30, 31, 32, 2, 33, 34, 35, 36, 37, 38, 39, 40, 41, 42, 43, 44, 45, 46, 47, 48, 49, 50, 51, 52, 53, 54, 55, 56, 57, 58] (by decide +kernel) (by decide +kernel)
set_option maxRecDepth 20000 in
theorem gX5_breaksIn_X5_goesThrough : GoodIn wsX5_breaksIn (wsV RX5 102 RX5 yX5_goesThrough wsX5_goesThrough) := goodIn_app (goodIn_of _ (by decide +kernel)) ggX5_breaksIn_X5_goesThrough
theorem dX5_breaksIn_0 : decode cX5_breaksIn 0 = .ok (.aload_n 0, 1) := by decide +kernel
theorem dX5_breaksIn_1 : decode cX5_breaksIn 1 = .ok (.invokevirtual 102, 3) := by decide +kernel
theorem dX5_breaksIn_4 : decode cX5_breaksIn 4 = .ok (.iconst 0, 1) := by decide +kernel
theorem dX5_breaksIn_5 : decode cX5_breaksIn 5 = .ok (.istore_n 2, 1) := by decide +kernel
theorem dX5_breaksIn_6 : decode cX5_breaksIn 6 = .ok (.iconst 0, 1) := by decide +kernel
theorem dX5_breaksIn_7 : decode cX5_breaksIn 7 = .ok (.istore_n 3, 1) := by decide +kernel
theorem dX5_breaksIn_8 : decode cX5_breaksIn 8 = .ok (.iload_n 3, 1) := by decide +kernel
theorem dX5_breaksIn_9 : decode cX5_breaksIn 9 = .ok (.aload_n 0, 1) := by decide +kernel
theorem dX5_breaksIn_10 : decode cX5_breaksIn 10 = .ok (.getfield 78, 3) := by decide +kernel
theorem dX5_breaksIn_13 : decode cX5_breaksIn 13 = .ok (.if_icmp .ge 29, 3) := by decide +kernel
theorem dX5_breaksIn_16 : decode cX5_breaksIn 16 = .ok (.iload_n 2, 1) := by decide +kernel
theorem dX5_breaksIn_17 : decode cX5_breaksIn 17 = .ok (.aload_n 0, 1) := by decide +kernel
theorem dX5_breaksIn_18 : decode cX5_breaksIn 18 = .ok (.getfield 31, 3) := by decide +kernel
theorem dX5_breaksIn_21 : decode cX5_breaksIn 21 = .ok (.iconst 5, 1) := by decide +kernel
theorem dX5_breaksIn_22 : decode cX5_breaksIn 22 = .ok (.iload_n 3, 1) := by decide +kernel
theorem dX5_breaksIn_23 : decode cX5_breaksIn 23 = .ok (.imul, 1) := by decide +kernel
theorem dX5_breaksIn_24 : decode cX5_breaksIn 24 = .ok (.iaload, 1) := by decide +kernel
theorem dX5_breaksIn_25 : decode cX5_breaksIn 25 = .ok (.iload_n 1, 1) := by decide +kernel
theorem dX5_breaksIn_26 : decode cX5_breaksIn 26 = .ok (.if_icmp .ne 7, 3) := by decide +kernel
theorem dX5_breaksIn_29 : decode cX5_breaksIn 29 = .ok (.iconst 1, 1) := by decide +kernel
theorem dX5_breaksIn_30 : decode cX5_breaksIn 30 = .ok (.goto 4, 3) := by decide +kernel
theorem dX5_breaksIn_33 : decode cX5_breaksIn 33 = .ok (.iconst 0, 1) := by decide +kernel
theorem dX5_breaksIn_34 : decode cX5_breaksIn 34 = .ok (.iadd, 1) := by decide +kernel
theorem dX5_breaksIn_35 : decode cX5_breaksIn 35 = .ok (.istore_n 2, 1) := by decide +kernel
theorem dX5_breaksIn_36 : decode cX5_breaksIn 36 = .ok (.iinc 3 1, 3) := by decide +kernel
theorem dX5_breaksIn_39 : decode cX5_breaksIn 39 = .ok (.goto (-31), 3) := by decide +kernel
theorem dX5_breaksIn_42 : decode cX5_breaksIn 42 = .ok (.iload_n 2, 1) := by decide +kernel
theorem dX5_breaksIn_43 : decode cX5_breaksIn 43 = .ok (.ireturn, 1) := by decide +kernel
set_option maxRecDepth 20000 in
theorem ggX5_panel_X5_lieOf : GoodIn wsX5_panel wsX5_lieOf := goodIn_r _ [5, 6, 7, 8, 9, 4, 10, 61, 62, 63, 64, 65, 66, 67, 68, 69, 70, 71, 72, 73, 74, 75, 76, 77, 78] (by decide +kernel) (by decide +kernel)
set_option maxRecDepth 20000 in
theorem gX5_panel_X5_lieOf : GoodIn wsX5_panel (wsV RX5 67 RX5 yX5_lieOf wsX5_lieOf) := goodIn_app (goodIn_of _ (by decide +kernel)) ggX5_panel_X5_lieOf
set_option maxRecDepth 20000 in
theorem ggX5_panel_X5_of : GoodIn wsX5_panel wsX5_of := goodIn_r _ [10, 6, 61, 62, 63, 64, 65, 66, 67, 68, 69, 70, 71, 72, 73, 74, 75, 76, 77, 78] (by decide +kernel) (by decide +kernel)
set_option maxRecDepth 20000 in
theorem gX5_panel_X5_of : GoodIn wsX5_panel (wsV RX5 63 RX5 yX5_of wsX5_of) := goodIn_app (goodIn_of _ (by decide +kernel)) ggX5_panel_X5_of
set_option maxRecDepth 20000 in
theorem ggX5_panel_X5_placeOf : GoodIn wsX5_panel wsX5_placeOf := goodIn_r _ [14, 7, 8, 9, 4, 10, 6, 61, 62, 63, 64, 65, 66, 67, 68, 69, 70, 71, 72, 73, 74, 75, 76, 77, 78] (by decide +kernel) (by decide +kernel)
set_option maxRecDepth 20000 in
theorem gX5_panel_X5_placeOf : GoodIn wsX5_panel (wsV RX5 155 RX5 yX5_placeOf wsX5_placeOf) := goodIn_app (goodIn_of _ (by decide +kernel)) ggX5_panel_X5_placeOf
set_option maxRecDepth 20000 in
theorem ggX5_panel_X5_beginOf : GoodIn wsX5_panel wsX5_beginOf := goodIn_r _ [18, 19, 20, 21, 22, 4, 23, 24, 25, 26, 27, 6, 7, 8, 9, 10, 61, 62, 63, 64, 65, 66, 67, 68, 69, 70, 71, 72, 73, 74, 75, 76, 77, 78] (by decide +kernel) (by decide +kernel)
set_option maxRecDepth 20000 in
theorem gX5_panel_X5_beginOf : GoodIn wsX5_panel (wsV RX5 178 RX5 yX5_beginOf wsX5_beginOf) := goodIn_app (goodIn_of _ (by decide +kernel)) ggX5_panel_X5_beginOf
set_option maxRecDepth 20000 in
theorem ggX5_panel_X5_rankOf : GoodIn wsX5_panel wsX5_rankOf := goodIn_r _ [23, 19, 24, 25, 26, 4, 27, 6, 7, 8, 9, 10, 61, 62, 63, 64, 65, 66, 67, 68, 69, 70, 71, 72, 73, 74, 75, 76, 77, 78] (by decide +kernel) (by decide +kernel)
set_option maxRecDepth 20000 in
theorem gX5_panel_X5_rankOf : GoodIn wsX5_panel (wsV RX5 175 RX5 yX5_rankOf wsX5_rankOf) := goodIn_app (goodIn_of _ (by decide +kernel)) ggX5_panel_X5_rankOf
set_option maxRecDepth 20000 in
theorem ggX5_panel_X5_breaksIn : GoodIn wsX5_panel wsX5_breaksIn := goodIn_r _ [31, 32, 33, 34, 35, 36, 4, 37, 38, 6, 19, 39, 40, 24, 25, 26, 27, 7, 8, 9, 10, 41, 42, 43, 44, 45, 46, 47, 48, 49, 50, 51, 52, 53, 54, 55, 56, 57, 58, 59, 60, 61, 62, 63, 64, 65, 66, 67, 68, 69, 70, 71, 72, 73, 74, 75, 76, 77, 78] (by decide +kernel) (by decide +kernel)
set_option maxRecDepth 20000 in
theorem gX5_panel_X5_breaksIn : GoodIn wsX5_panel (wsV RX5 181 RX5 yX5_breaksIn wsX5_breaksIn) := goodIn_app (goodIn_of _ (by decide +kernel)) ggX5_panel_X5_breaksIn
theorem dX5_panel_0 : decode cX5_panel 0 = .ok (.aload_n 0, 1) := by decide +kernel
theorem dX5_panel_1 : decode cX5_panel 1 = .ok (.iload_n 1, 1) := by decide +kernel
theorem dX5_panel_2 : decode cX5_panel 2 = .ok (.invokevirtual 67, 3) := by decide +kernel
theorem dX5_panel_5 : decode cX5_panel 5 = .ok (.istore_n 3, 1) := by decide +kernel
theorem dX5_panel_6 : decode cX5_panel 6 = .ok (.iload_n 3, 1) := by decide +kernel
theorem dX5_panel_7 : decode cX5_panel 7 = .ok (.bipush (-5), 2) := by decide +kernel
theorem dX5_panel_9 : decode cX5_panel 9 = .ok (.if_icmp .ne 5, 3) := by decide +kernel
theorem dX5_panel_12 : decode cX5_panel 12 = .ok (.iconst (-1), 1) := by decide +kernel
theorem dX5_panel_13 : decode cX5_panel 13 = .ok (.ireturn, 1) := by decide +kernel
theorem dX5_panel_14 : decode cX5_panel 14 = .ok (.iload_n 2, 1) := by decide +kernel
theorem dX5_panel_15 : decode cX5_panel 15 = .ok (.tableswitch 86 0 6 #[41, 48, 55, 62, 68, 74, 80], 41) := by decide +kernel
theorem dX5_panel_56 : decode cX5_panel 56 = .ok (.aload_n 0, 1) := by decide +kernel
theorem dX5_panel_57 : decode cX5_panel 57 = .ok (.iload_n 3, 1) := by decide +kernel
theorem dX5_panel_58 : decode cX5_panel 58 = .ok (.iconst 1, 1) := by decide +kernel
theorem dX5_panel_59 : decode cX5_panel 59 = .ok (.invokevirtual 63, 3) := by decide +kernel
theorem dX5_panel_62 : decode cX5_panel 62 = .ok (.ireturn, 1) := by decide +kernel
theorem dX5_panel_63 : decode cX5_panel 63 = .ok (.aload_n 0, 1) := by decide +kernel
theorem dX5_panel_64 : decode cX5_panel 64 = .ok (.iload_n 3, 1) := by decide +kernel
theorem dX5_panel_65 : decode cX5_panel 65 = .ok (.iconst 2, 1) := by decide +kernel
theorem dX5_panel_66 : decode cX5_panel 66 = .ok (.invokevirtual 63, 3) := by decide +kernel
theorem dX5_panel_69 : decode cX5_panel 69 = .ok (.ireturn, 1) := by decide +kernel
theorem dX5_panel_70 : decode cX5_panel 70 = .ok (.aload_n 0, 1) := by decide +kernel
theorem dX5_panel_71 : decode cX5_panel 71 = .ok (.iload_n 3, 1) := by decide +kernel
theorem dX5_panel_72 : decode cX5_panel 72 = .ok (.iconst 3, 1) := by decide +kernel
theorem dX5_panel_73 : decode cX5_panel 73 = .ok (.invokevirtual 63, 3) := by decide +kernel
theorem dX5_panel_76 : decode cX5_panel 76 = .ok (.ireturn, 1) := by decide +kernel
theorem dX5_panel_77 : decode cX5_panel 77 = .ok (.aload_n 0, 1) := by decide +kernel
theorem dX5_panel_78 : decode cX5_panel 78 = .ok (.iload_n 3, 1) := by decide +kernel
theorem dX5_panel_79 : decode cX5_panel 79 = .ok (.invokevirtual 155, 3) := by decide +kernel
theorem dX5_panel_82 : decode cX5_panel 82 = .ok (.ireturn, 1) := by decide +kernel
theorem dX5_panel_83 : decode cX5_panel 83 = .ok (.aload_n 0, 1) := by decide +kernel
theorem dX5_panel_84 : decode cX5_panel 84 = .ok (.iload_n 3, 1) := by decide +kernel
theorem dX5_panel_85 : decode cX5_panel 85 = .ok (.invokevirtual 178, 3) := by decide +kernel
theorem dX5_panel_88 : decode cX5_panel 88 = .ok (.ireturn, 1) := by decide +kernel
theorem dX5_panel_89 : decode cX5_panel 89 = .ok (.aload_n 0, 1) := by decide +kernel
theorem dX5_panel_90 : decode cX5_panel 90 = .ok (.iload_n 3, 1) := by decide +kernel
theorem dX5_panel_91 : decode cX5_panel 91 = .ok (.invokevirtual 175, 3) := by decide +kernel
theorem dX5_panel_94 : decode cX5_panel 94 = .ok (.ireturn, 1) := by decide +kernel
theorem dX5_panel_95 : decode cX5_panel 95 = .ok (.aload_n 0, 1) := by decide +kernel
theorem dX5_panel_96 : decode cX5_panel 96 = .ok (.iload_n 1, 1) := by decide +kernel
theorem dX5_panel_97 : decode cX5_panel 97 = .ok (.invokevirtual 181, 3) := by decide +kernel
theorem dX5_panel_100 : decode cX5_panel 100 = .ok (.ireturn, 1) := by decide +kernel
theorem dX5_panel_101 : decode cX5_panel 101 = .ok (.bipush (-2), 2) := by decide +kernel
theorem dX5_panel_103 : decode cX5_panel 103 = .ok (.ireturn, 1) := by decide +kernel
set_option maxRecDepth 20000 in
theorem ggX5_event_X5_lieOf : GoodIn wsX5_event wsX5_lieOf := goodIn_r _ [6, 7, 8, 9, 10, 5, 11, 19, 20, 21, 22, 23, 24, 25, 26, 27, 28, 29, 30, 31, 32, 33, 34, 35, 36] (by decide +kernel) (by decide +kernel)
set_option maxRecDepth 20000 in
theorem gX5_event_X5_lieOf : GoodIn wsX5_event (wsV RX5 67 RX5 yX5_lieOf wsX5_lieOf) := goodIn_app (goodIn_of _ (by decide +kernel)) ggX5_event_X5_lieOf
set_option maxRecDepth 20000 in
theorem ggX5_event_X5_of : GoodIn wsX5_event wsX5_of := goodIn_r _ [11, 7, 19, 20, 21, 22, 23, 24, 25, 26, 27, 28, 29, 30, 31, 32, 33, 34, 35, 36] (by decide +kernel) (by decide +kernel)
set_option maxRecDepth 20000 in
theorem gX5_event_X5_of : GoodIn wsX5_event (wsV RX5 63 RX5 yX5_of wsX5_of) := goodIn_app (goodIn_of _ (by decide +kernel)) ggX5_event_X5_of
set_option maxRecDepth 20000 in
theorem ggX5_event_X5_in : GoodIn wsX5_event wsX5_in := goodIn_r _ [14] (by decide +kernel) (by decide +kernel)
set_option maxRecDepth 20000 in
theorem gX5_event_X5_in : GoodIn wsX5_event (va_wsS RX5 59 yX5_in wsX5_in) := goodIn_app (goodIn_of _ (by decide +kernel)) ggX5_event_X5_in
set_option maxRecDepth 20000 in
theorem ggX5_event_X5_eventOf : GoodIn wsX5_event wsX5_eventOf := goodIn_r _ [18, 8, 9, 10, 5, 11, 7, 19, 20, 21, 22, 23, 24, 25, 26, 27, 28, 29, 30, 31, 32, 33, 34, 35, 36] (by decide +kernel) (by decide +kernel)
set_option maxRecDepth 20000 in
theorem gX5_event_X5_eventOf : GoodIn wsX5_event (wsV RX5 81 RX5 yX5_eventOf wsX5_eventOf) := goodIn_app (goodIn_of _ (by decide +kernel)) ggX5_event_X5_eventOf
theorem dX5_event_0 : decode cX5_event 0 = .ok (.aload_n 0, 1) := by decide +kernel
theorem dX5_event_1 : decode cX5_event 1 = .ok (.iload_n 1, 1) := by decide +kernel
theorem dX5_event_2 : decode cX5_event 2 = .ok (.invokevirtual 67, 3) := by decide +kernel
theorem dX5_event_5 : decode cX5_event 5 = .ok (.istore 4, 2) := by decide +kernel
theorem dX5_event_7 : decode cX5_event 7 = .ok (.iload 4, 2) := by decide +kernel
theorem dX5_event_9 : decode cX5_event 9 = .ok (.bipush (-5), 2) := by decide +kernel
theorem dX5_event_11 : decode cX5_event 11 = .ok (.if_icmp .eq 22, 3) := by decide +kernel
theorem dX5_event_14 : decode cX5_event 14 = .ok (.iload_n 2, 1) := by decide +kernel
theorem dX5_event_15 : decode cX5_event 15 = .ok (.i2l, 1) := by decide +kernel
theorem dX5_event_16 : decode cX5_event 16 = .ok (.lconst 0, 1) := by decide +kernel
theorem dX5_event_17 : decode cX5_event 17 = .ok (.aload_n 0, 1) := by decide +kernel
theorem dX5_event_18 : decode cX5_event 18 = .ok (.iload 4, 2) := by decide +kernel
theorem dX5_event_20 : decode cX5_event 20 = .ok (.iconst 3, 1) := by decide +kernel
theorem dX5_event_21 : decode cX5_event 21 = .ok (.invokevirtual 63, 3) := by decide +kernel
theorem dX5_event_24 : decode cX5_event 24 = .ok (.i2l, 1) := by decide +kernel
theorem dX5_event_25 : decode cX5_event 25 = .ok (.lconst 1, 1) := by decide +kernel
theorem dX5_event_26 : decode cX5_event 26 = .ok (.lsub, 1) := by decide +kernel
theorem dX5_event_27 : decode cX5_event 27 = .ok (.invokestatic 59, 3) := by decide +kernel
theorem dX5_event_30 : decode cX5_event 30 = .ok (.ifCond .ne 5, 3) := by decide +kernel
theorem dX5_event_33 : decode cX5_event 33 = .ok (.iconst (-1), 1) := by decide +kernel
theorem dX5_event_34 : decode cX5_event 34 = .ok (.ireturn, 1) := by decide +kernel
theorem dX5_event_35 : decode cX5_event 35 = .ok (.iload_n 3, 1) := by decide +kernel
theorem dX5_event_36 : decode cX5_event 36 = .ok (.i2l, 1) := by decide +kernel
theorem dX5_event_37 : decode cX5_event 37 = .ok (.lconst 0, 1) := by decide +kernel
theorem dX5_event_38 : decode cX5_event 38 = .ok (.ldc2_w 184, 3) := by decide +kernel
theorem dX5_event_41 : decode cX5_event 41 = .ok (.invokestatic 59, 3) := by decide +kernel
theorem dX5_event_44 : decode cX5_event 44 = .ok (.ifCond .eq 14, 3) := by decide +kernel
theorem dX5_event_47 : decode cX5_event 47 = .ok (.aload_n 0, 1) := by decide +kernel
theorem dX5_event_48 : decode cX5_event 48 = .ok (.iload 4, 2) := by decide +kernel
theorem dX5_event_50 : decode cX5_event 50 = .ok (.iload_n 2, 1) := by decide +kernel
theorem dX5_event_51 : decode cX5_event 51 = .ok (.iload_n 3, 1) := by decide +kernel
theorem dX5_event_52 : decode cX5_event 52 = .ok (.invokevirtual 81, 3) := by decide +kernel
theorem dX5_event_55 : decode cX5_event 55 = .ok (.goto 5, 3) := by decide +kernel
theorem dX5_event_58 : decode cX5_event 58 = .ok (.bipush (-2), 2) := by decide +kernel
theorem dX5_event_60 : decode cX5_event 60 = .ok (.ireturn, 1) := by decide +kernel
set_option maxRecDepth 20000 in
theorem ggX5_at_X5_findsOrder : GoodIn wsX5_at wsX5_findsOrder := goodIn_r _ [7, 1, 2, 8, 9, 10, 6, 11, 12, 13, 14, 15, 16, 17, 18, 19, 20, 21, 22, 23, 24, 25, 26, 27, 28, 29] (by decide +kernel) (by decide +kernel)
set_option maxRecDepth 20000 in
theorem gX5_at_X5_findsOrder : GoodIn wsX5_at (wsV RX5 92 RX5 yX5_findsOrder wsX5_findsOrder) := goodIn_app (goodIn_of _ (by decide +kernel)) ggX5_at_X5_findsOrder
set_option maxRecDepth 20000 in
theorem ggX5_at_X5_of : GoodIn wsX5_at wsX5_of := goodIn_r _ [11, 1, 12, 13, 14, 15, 16, 17, 18, 19, 20, 21, 22, 23, 24, 25, 26, 27, 28, 29] (by decide +kernel) (by decide +kernel)
set_option maxRecDepth 20000 in
theorem gX5_at_X5_of : GoodIn wsX5_at (wsV RX5 63 RX5 yX5_of wsX5_of) := goodIn_app (goodIn_of _ (by decide +kernel)) ggX5_at_X5_of
theorem dX5_at_0 : decode cX5_at 0 = .ok (.iload_n 1, 1) := by decide +kernel
theorem dX5_at_1 : decode cX5_at 1 = .ok (.ifCond .ge 6, 3) := by decide +kernel
theorem dX5_at_4 : decode cX5_at 4 = .ok (.bipush (-2), 2) := by decide +kernel
theorem dX5_at_6 : decode cX5_at 6 = .ok (.ireturn, 1) := by decide +kernel
theorem dX5_at_7 : decode cX5_at 7 = .ok (.aload_n 0, 1) := by decide +kernel
theorem dX5_at_8 : decode cX5_at 8 = .ok (.invokevirtual 92, 3) := by decide +kernel
theorem dX5_at_11 : decode cX5_at 11 = .ok (.iload_n 1, 1) := by decide +kernel
theorem dX5_at_12 : decode cX5_at 12 = .ok (.aload_n 0, 1) := by decide +kernel
theorem dX5_at_13 : decode cX5_at 13 = .ok (.getfield 7, 3) := by decide +kernel
theorem dX5_at_16 : decode cX5_at 16 = .ok (.iconst 1, 1) := by decide +kernel
theorem dX5_at_17 : decode cX5_at 17 = .ok (.iaload, 1) := by decide +kernel
theorem dX5_at_18 : decode cX5_at 18 = .ok (.if_icmp .ge 17, 3) := by decide +kernel
theorem dX5_at_21 : decode cX5_at 21 = .ok (.aload_n 0, 1) := by decide +kernel
theorem dX5_at_22 : decode cX5_at 22 = .ok (.aload_n 0, 1) := by decide +kernel
theorem dX5_at_23 : decode cX5_at 23 = .ok (.getfield 28, 3) := by decide +kernel
theorem dX5_at_26 : decode cX5_at 26 = .ok (.iload_n 1, 1) := by decide +kernel
theorem dX5_at_27 : decode cX5_at 27 = .ok (.iaload, 1) := by decide +kernel
theorem dX5_at_28 : decode cX5_at 28 = .ok (.iconst 0, 1) := by decide +kernel
theorem dX5_at_29 : decode cX5_at 29 = .ok (.invokevirtual 63, 3) := by decide +kernel
theorem dX5_at_32 : decode cX5_at 32 = .ok (.goto 5, 3) := by decide +kernel
theorem dX5_at_35 : decode cX5_at 35 = .ok (.bipush (-5), 2) := by decide +kernel
theorem dX5_at_37 : decode cX5_at 37 = .ok (.ireturn, 1) := by decide +kernel
set_option maxRecDepth 20000 in
theorem ggX5_sceneOf_X5_lieOf : GoodIn wsX5_sceneOf wsX5_lieOf := goodIn_r _ [5, 6, 7, 8, 9, 4, 10, 11, 12, 13, 14, 15, 16, 17, 18, 19, 20, 21, 22, 23, 24, 25, 26, 27, 28] (by decide +kernel) (by decide +kernel)
set_option maxRecDepth 20000 in
theorem gX5_sceneOf_X5_lieOf : GoodIn wsX5_sceneOf (wsV RX5 67 RX5 yX5_lieOf wsX5_lieOf) := goodIn_app (goodIn_of _ (by decide +kernel)) ggX5_sceneOf_X5_lieOf
set_option maxRecDepth 20000 in
theorem ggX5_sceneOf_X5_of : GoodIn wsX5_sceneOf wsX5_of := goodIn_r _ [10, 6, 11, 12, 13, 14, 15, 16, 17, 18, 19, 20, 21, 22, 23, 24, 25, 26, 27, 28] (by decide +kernel) (by decide +kernel)
set_option maxRecDepth 20000 in
theorem gX5_sceneOf_X5_of : GoodIn wsX5_sceneOf (wsV RX5 63 RX5 yX5_of wsX5_of) := goodIn_app (goodIn_of _ (by decide +kernel)) ggX5_sceneOf_X5_of
theorem dX5_sceneOf_0 : decode cX5_sceneOf 0 = .ok (.aload_n 0, 1) := by decide +kernel
theorem dX5_sceneOf_1 : decode cX5_sceneOf 1 = .ok (.aload_n 0, 1) := by decide +kernel
theorem dX5_sceneOf_2 : decode cX5_sceneOf 2 = .ok (.iload_n 1, 1) := by decide +kernel
theorem dX5_sceneOf_3 : decode cX5_sceneOf 3 = .ok (.invokevirtual 67, 3) := by decide +kernel
theorem dX5_sceneOf_6 : decode cX5_sceneOf 6 = .ok (.iconst 1, 1) := by decide +kernel
theorem dX5_sceneOf_7 : decode cX5_sceneOf 7 = .ok (.invokevirtual 63, 3) := by decide +kernel
theorem dX5_sceneOf_10 : decode cX5_sceneOf 10 = .ok (.ireturn, 1) := by decide +kernel
set_option maxRecDepth 20000 in
theorem ggX5_durationOf_X5_of : GoodIn wsX5_durationOf wsX5_of := goodIn_r _ [6, 1, 7, 8, 9, 10, 11, 12, 13, 14, 15, 16, 17, 18, 19, 20, 21, 22, 23, 24] (by decide +kernel) (by decide +kernel)
set_option maxRecDepth 20000 in
theorem gX5_durationOf_X5_of : GoodIn wsX5_durationOf (wsV RX5 63 RX5 yX5_of wsX5_of) := goodIn_app (goodIn_of _ (by decide +kernel)) ggX5_durationOf_X5_of
theorem dX5_durationOf_0 : decode cX5_durationOf 0 = .ok (.iconst 0, 1) := by decide +kernel
theorem dX5_durationOf_1 : decode cX5_durationOf 1 = .ok (.istore_n 2, 1) := by decide +kernel
theorem dX5_durationOf_2 : decode cX5_durationOf 2 = .ok (.iconst 0, 1) := by decide +kernel
theorem dX5_durationOf_3 : decode cX5_durationOf 3 = .ok (.istore_n 3, 1) := by decide +kernel
theorem dX5_durationOf_4 : decode cX5_durationOf 4 = .ok (.iload_n 3, 1) := by decide +kernel
theorem dX5_durationOf_5 : decode cX5_durationOf 5 = .ok (.aload_n 0, 1) := by decide +kernel
theorem dX5_durationOf_6 : decode cX5_durationOf 6 = .ok (.getfield 7, 3) := by decide +kernel
theorem dX5_durationOf_9 : decode cX5_durationOf 9 = .ok (.iconst 1, 1) := by decide +kernel
theorem dX5_durationOf_10 : decode cX5_durationOf 10 = .ok (.iaload, 1) := by decide +kernel
theorem dX5_durationOf_11 : decode cX5_durationOf 11 = .ok (.if_icmp .ge 32, 3) := by decide +kernel
theorem dX5_durationOf_14 : decode cX5_durationOf 14 = .ok (.iload_n 2, 1) := by decide +kernel
theorem dX5_durationOf_15 : decode cX5_durationOf 15 = .ok (.aload_n 0, 1) := by decide +kernel
theorem dX5_durationOf_16 : decode cX5_durationOf 16 = .ok (.iload_n 3, 1) := by decide +kernel
theorem dX5_durationOf_17 : decode cX5_durationOf 17 = .ok (.iconst 1, 1) := by decide +kernel
theorem dX5_durationOf_18 : decode cX5_durationOf 18 = .ok (.invokevirtual 63, 3) := by decide +kernel
theorem dX5_durationOf_21 : decode cX5_durationOf 21 = .ok (.iload_n 1, 1) := by decide +kernel
theorem dX5_durationOf_22 : decode cX5_durationOf 22 = .ok (.if_icmp .ne 12, 3) := by decide +kernel
theorem dX5_durationOf_25 : decode cX5_durationOf 25 = .ok (.aload_n 0, 1) := by decide +kernel
theorem dX5_durationOf_26 : decode cX5_durationOf 26 = .ok (.iload_n 3, 1) := by decide +kernel
theorem dX5_durationOf_27 : decode cX5_durationOf 27 = .ok (.iconst 2, 1) := by decide +kernel
theorem dX5_durationOf_28 : decode cX5_durationOf 28 = .ok (.invokevirtual 63, 3) := by decide +kernel
theorem dX5_durationOf_31 : decode cX5_durationOf 31 = .ok (.goto 4, 3) := by decide +kernel
theorem dX5_durationOf_34 : decode cX5_durationOf 34 = .ok (.iconst 0, 1) := by decide +kernel
theorem dX5_durationOf_35 : decode cX5_durationOf 35 = .ok (.iadd, 1) := by decide +kernel
theorem dX5_durationOf_36 : decode cX5_durationOf 36 = .ok (.istore_n 2, 1) := by decide +kernel
theorem dX5_durationOf_37 : decode cX5_durationOf 37 = .ok (.iinc 3 1, 3) := by decide +kernel
theorem dX5_durationOf_40 : decode cX5_durationOf 40 = .ok (.goto (-36), 3) := by decide +kernel
theorem dX5_durationOf_43 : decode cX5_durationOf 43 = .ok (.iload_n 2, 1) := by decide +kernel
theorem dX5_durationOf_44 : decode cX5_durationOf 44 = .ok (.ireturn, 1) := by decide +kernel
set_option maxRecDepth 20000 in
theorem ggX5_breaksOf_X5_goesThrough : GoodIn wsX5_breaksOf wsX5_goesThrough := goodIn_r _ [7, 1, 8, 9, 10, 11, 12, 13, 14, 15, 6, 16, 17, 18, 19, 20, 21, 22, 23, 24, 25, 26, 27, 28, 29, 30, 31, 32, 2, 33, 34, 35, 36, 37, 38, 39, 40, 49, 50, 51, 52, 53, 54, 55, 56, 57, 58, 59, 60, 61, 62, 63, 64, 65, 66] (by decide +kernel) (by decide +kernel)
set_option maxRecDepth 20000 in
theorem gX5_breaksOf_X5_goesThrough : GoodIn wsX5_breaksOf (wsV RX5 102 RX5 yX5_goesThrough wsX5_goesThrough) := goodIn_app (goodIn_of _ (by decide +kernel)) ggX5_breaksOf_X5_goesThrough
set_option maxRecDepth 20000 in
theorem ggX5_breaksOf_X5_sceneOf : GoodIn wsX5_breaksOf wsX5_sceneOf := goodIn_r _ [44, 45, 46, 47, 6, 48, 9, 17, 18, 19, 20, 49, 50, 51, 52, 53, 54, 55, 56, 57, 58, 59, 60, 61, 62, 63, 64, 65, 66] (by decide +kernel) (by decide +kernel)
set_option maxRecDepth 20000 in
theorem gX5_breaksOf_X5_sceneOf : GoodIn wsX5_breaksOf (wsV RX5 186 RX5 yX5_sceneOf wsX5_sceneOf) := goodIn_app (goodIn_of _ (by decide +kernel)) ggX5_breaksOf_X5_sceneOf
theorem dX5_breaksOf_0 : decode cX5_breaksOf 0 = .ok (.aload_n 0, 1) := by decide +kernel
theorem dX5_breaksOf_1 : decode cX5_breaksOf 1 = .ok (.invokevirtual 102, 3) := by decide +kernel
theorem dX5_breaksOf_4 : decode cX5_breaksOf 4 = .ok (.iconst 0, 1) := by decide +kernel
theorem dX5_breaksOf_5 : decode cX5_breaksOf 5 = .ok (.istore_n 2, 1) := by decide +kernel
theorem dX5_breaksOf_6 : decode cX5_breaksOf 6 = .ok (.iconst 0, 1) := by decide +kernel
theorem dX5_breaksOf_7 : decode cX5_breaksOf 7 = .ok (.istore_n 3, 1) := by decide +kernel
theorem dX5_breaksOf_8 : decode cX5_breaksOf 8 = .ok (.iload_n 3, 1) := by decide +kernel
theorem dX5_breaksOf_9 : decode cX5_breaksOf 9 = .ok (.aload_n 0, 1) := by decide +kernel
theorem dX5_breaksOf_10 : decode cX5_breaksOf 10 = .ok (.getfield 78, 3) := by decide +kernel
theorem dX5_breaksOf_13 : decode cX5_breaksOf 13 = .ok (.if_icmp .ge 33, 3) := by decide +kernel
theorem dX5_breaksOf_16 : decode cX5_breaksOf 16 = .ok (.iload_n 2, 1) := by decide +kernel
theorem dX5_breaksOf_17 : decode cX5_breaksOf 17 = .ok (.aload_n 0, 1) := by decide +kernel
theorem dX5_breaksOf_18 : decode cX5_breaksOf 18 = .ok (.aload_n 0, 1) := by decide +kernel
theorem dX5_breaksOf_19 : decode cX5_breaksOf 19 = .ok (.getfield 31, 3) := by decide +kernel
theorem dX5_breaksOf_22 : decode cX5_breaksOf 22 = .ok (.iconst 5, 1) := by decide +kernel
theorem dX5_breaksOf_23 : decode cX5_breaksOf 23 = .ok (.iload_n 3, 1) := by decide +kernel
theorem dX5_breaksOf_24 : decode cX5_breaksOf 24 = .ok (.imul, 1) := by decide +kernel
theorem dX5_breaksOf_25 : decode cX5_breaksOf 25 = .ok (.iaload, 1) := by decide +kernel
theorem dX5_breaksOf_26 : decode cX5_breaksOf 26 = .ok (.invokevirtual 186, 3) := by decide +kernel
theorem dX5_breaksOf_29 : decode cX5_breaksOf 29 = .ok (.iload_n 1, 1) := by decide +kernel
theorem dX5_breaksOf_30 : decode cX5_breaksOf 30 = .ok (.if_icmp .ne 7, 3) := by decide +kernel
theorem dX5_breaksOf_33 : decode cX5_breaksOf 33 = .ok (.iconst 1, 1) := by decide +kernel
theorem dX5_breaksOf_34 : decode cX5_breaksOf 34 = .ok (.goto 4, 3) := by decide +kernel
theorem dX5_breaksOf_37 : decode cX5_breaksOf 37 = .ok (.iconst 0, 1) := by decide +kernel
theorem dX5_breaksOf_38 : decode cX5_breaksOf 38 = .ok (.iadd, 1) := by decide +kernel
theorem dX5_breaksOf_39 : decode cX5_breaksOf 39 = .ok (.istore_n 2, 1) := by decide +kernel
theorem dX5_breaksOf_40 : decode cX5_breaksOf 40 = .ok (.iinc 3 1, 3) := by decide +kernel
theorem dX5_breaksOf_43 : decode cX5_breaksOf 43 = .ok (.goto (-35), 3) := by decide +kernel
theorem dX5_breaksOf_46 : decode cX5_breaksOf 46 = .ok (.iload_n 2, 1) := by decide +kernel
theorem dX5_breaksOf_47 : decode cX5_breaksOf 47 = .ok (.ireturn, 1) := by decide +kernel
set_option maxRecDepth 20000 in
theorem ggX5_beginOfScene_X5_placeOfScene : GoodIn wsX5_beginOfScene wsX5_placeOfScene := goodIn_r _ [6, 1, 15, 16, 17, 18, 19, 20, 21, 22, 23, 24, 25, 26, 27, 28, 29, 30, 31, 32] (by decide +kernel) (by decide +kernel)
set_option maxRecDepth 20000 in
theorem gX5_beginOfScene_X5_placeOfScene : GoodIn wsX5_beginOfScene (wsV RX5 161 RX5 yX5_placeOfScene wsX5_placeOfScene) := goodIn_app (goodIn_of _ (by decide +kernel)) ggX5_beginOfScene_X5_placeOfScene
set_option maxRecDepth 20000 in
theorem ggX5_beginOfScene_X5_durationOf : GoodIn wsX5_beginOfScene wsX5_durationOf := goodIn_r _ [10, 1, 11, 12, 13, 5, 14, 15, 16, 17, 18, 19, 20, 21, 22, 23, 24, 25, 26, 27, 28, 29, 30, 31, 32] (by decide +kernel) (by decide +kernel)
set_option maxRecDepth 20000 in
theorem gX5_beginOfScene_X5_durationOf : GoodIn wsX5_beginOfScene (wsV RX5 189 RX5 yX5_durationOf wsX5_durationOf) := goodIn_app (goodIn_of _ (by decide +kernel)) ggX5_beginOfScene_X5_durationOf
theorem dX5_beginOfScene_0 : decode cX5_beginOfScene 0 = .ok (.iconst 0, 1) := by decide +kernel
theorem dX5_beginOfScene_1 : decode cX5_beginOfScene 1 = .ok (.istore_n 2, 1) := by decide +kernel
theorem dX5_beginOfScene_2 : decode cX5_beginOfScene 2 = .ok (.iconst 0, 1) := by decide +kernel
theorem dX5_beginOfScene_3 : decode cX5_beginOfScene 3 = .ok (.istore_n 3, 1) := by decide +kernel
theorem dX5_beginOfScene_4 : decode cX5_beginOfScene 4 = .ok (.iload_n 3, 1) := by decide +kernel
theorem dX5_beginOfScene_5 : decode cX5_beginOfScene 5 = .ok (.aload_n 0, 1) := by decide +kernel
theorem dX5_beginOfScene_6 : decode cX5_beginOfScene 6 = .ok (.iload_n 1, 1) := by decide +kernel
theorem dX5_beginOfScene_7 : decode cX5_beginOfScene 7 = .ok (.invokevirtual 161, 3) := by decide +kernel
theorem dX5_beginOfScene_10 : decode cX5_beginOfScene 10 = .ok (.if_icmp .ge 24, 3) := by decide +kernel
theorem dX5_beginOfScene_13 : decode cX5_beginOfScene 13 = .ok (.iload_n 2, 1) := by decide +kernel
theorem dX5_beginOfScene_14 : decode cX5_beginOfScene 14 = .ok (.aload_n 0, 1) := by decide +kernel
theorem dX5_beginOfScene_15 : decode cX5_beginOfScene 15 = .ok (.aload_n 0, 1) := by decide +kernel
theorem dX5_beginOfScene_16 : decode cX5_beginOfScene 16 = .ok (.getfield 7, 3) := by decide +kernel
theorem dX5_beginOfScene_19 : decode cX5_beginOfScene 19 = .ok (.iconst 2, 1) := by decide +kernel
theorem dX5_beginOfScene_20 : decode cX5_beginOfScene 20 = .ok (.iload_n 3, 1) := by decide +kernel
theorem dX5_beginOfScene_21 : decode cX5_beginOfScene 21 = .ok (.iadd, 1) := by decide +kernel
theorem dX5_beginOfScene_22 : decode cX5_beginOfScene 22 = .ok (.iaload, 1) := by decide +kernel
theorem dX5_beginOfScene_23 : decode cX5_beginOfScene 23 = .ok (.invokevirtual 189, 3) := by decide +kernel
theorem dX5_beginOfScene_26 : decode cX5_beginOfScene 26 = .ok (.iadd, 1) := by decide +kernel
theorem dX5_beginOfScene_27 : decode cX5_beginOfScene 27 = .ok (.istore_n 2, 1) := by decide +kernel
theorem dX5_beginOfScene_28 : decode cX5_beginOfScene 28 = .ok (.iinc 3 1, 3) := by decide +kernel
theorem dX5_beginOfScene_31 : decode cX5_beginOfScene 31 = .ok (.goto (-27), 3) := by decide +kernel
theorem dX5_beginOfScene_34 : decode cX5_beginOfScene 34 = .ok (.iload_n 2, 1) := by decide +kernel
theorem dX5_beginOfScene_35 : decode cX5_beginOfScene 35 = .ok (.ireturn, 1) := by decide +kernel
set_option maxRecDepth 20000 in
theorem ggX5_scene_X5_isScene : GoodIn wsX5_scene wsX5_isScene := goodIn_r _ [4, 5, 6, 7, 3, 8] (by decide +kernel) (by decide +kernel)
set_option maxRecDepth 20000 in
theorem gX5_scene_X5_isScene : GoodIn wsX5_scene (va_wsS RX5 158 yX5_isScene wsX5_isScene) := goodIn_app (goodIn_of _ (by decide +kernel)) ggX5_scene_X5_isScene
set_option maxRecDepth 20000 in
theorem ggX5_scene_X5_placeOfScene : GoodIn wsX5_scene wsX5_placeOfScene := goodIn_r _ [12, 13, 76, 77, 78, 79, 80, 81, 82, 83, 84, 85, 86, 87, 88, 89, 90, 91, 92, 93] (by decide +kernel) (by decide +kernel)
set_option maxRecDepth 20000 in
theorem gX5_scene_X5_placeOfScene : GoodIn wsX5_scene (wsV RX5 161 RX5 yX5_placeOfScene wsX5_placeOfScene) := goodIn_app (goodIn_of _ (by decide +kernel)) ggX5_scene_X5_placeOfScene
set_option maxRecDepth 20000 in
theorem ggX5_scene_X5_panelsOf : GoodIn wsX5_scene wsX5_panelsOf := goodIn_r _ [17, 13, 18, 19, 20, 3, 21, 76, 77, 78, 79, 80, 81, 82, 83, 84, 85, 86, 87, 88, 89, 90, 91, 92, 93] (by decide +kernel) (by decide +kernel)
set_option maxRecDepth 20000 in
theorem gX5_scene_X5_panelsOf : GoodIn wsX5_scene (wsV RX5 113 RX5 yX5_panelsOf wsX5_panelsOf) := goodIn_app (goodIn_of _ (by decide +kernel)) ggX5_scene_X5_panelsOf
set_option maxRecDepth 20000 in
theorem ggX5_scene_X5_durationOf : GoodIn wsX5_scene wsX5_durationOf := goodIn_r _ [25, 13, 18, 19, 20, 3, 21, 76, 77, 78, 79, 80, 81, 82, 83, 84, 85, 86, 87, 88, 89, 90, 91, 92, 93] (by decide +kernel) (by decide +kernel)
set_option maxRecDepth 20000 in
theorem gX5_scene_X5_durationOf : GoodIn wsX5_scene (wsV RX5 189 RX5 yX5_durationOf wsX5_durationOf) := goodIn_app (goodIn_of _ (by decide +kernel)) ggX5_scene_X5_durationOf
set_option maxRecDepth 20000 in
theorem ggX5_scene_X5_breaksOf : GoodIn wsX5_scene wsX5_breaksOf := goodIn_r _ [29, 30, 31, 32, 33, 34, 3, 35, 36, 13, 37, 38, 39, 40, 41, 42, 43, 18, 19, 20, 21, 44, 45, 46, 47, 48, 49, 50, 51, 52, 53, 54, 55, 56, 57, 58, 59, 60, 61, 62, 63, 64, 65, 66, 67, 68, 69, 70, 71, 76, 77, 78, 79, 80, 81, 82, 83, 84, 85, 86, 87, 88, 89, 90, 91, 92, 93] (by decide +kernel) (by decide +kernel)
set_option maxRecDepth 20000 in
theorem gX5_scene_X5_breaksOf : GoodIn wsX5_scene (wsV RX5 192 RX5 yX5_breaksOf wsX5_breaksOf) := goodIn_app (goodIn_of _ (by decide +kernel)) ggX5_scene_X5_breaksOf
set_option maxRecDepth 20000 in
theorem ggX5_scene_X5_beginOfScene : GoodIn wsX5_scene wsX5_beginOfScene := goodIn_r _ [75, 13, 9, 10, 11, 3, 12, 22, 23, 24, 25, 18, 19, 20, 21, 76, 77, 78, 79, 80, 81, 82, 83, 84, 85, 86, 87, 88, 89, 90, 91, 92, 93] (by decide +kernel) (by decide +kernel)
set_option maxRecDepth 20000 in
theorem gX5_scene_X5_beginOfScene : GoodIn wsX5_scene (wsV RX5 195 RX5 yX5_beginOfScene wsX5_beginOfScene) := goodIn_app (goodIn_of _ (by decide +kernel)) ggX5_scene_X5_beginOfScene
theorem dX5_scene_0 : decode cX5_scene 0 = .ok (.iload_n 1, 1) := by decide +kernel
theorem dX5_scene_1 : decode cX5_scene 1 = .ok (.invokestatic 158, 3) := by decide +kernel
theorem dX5_scene_4 : decode cX5_scene 4 = .ok (.ifCond .ne 5, 3) := by decide +kernel
theorem dX5_scene_7 : decode cX5_scene 7 = .ok (.iconst (-1), 1) := by decide +kernel
theorem dX5_scene_8 : decode cX5_scene 8 = .ok (.ireturn, 1) := by decide +kernel
theorem dX5_scene_9 : decode cX5_scene 9 = .ok (.iload_n 2, 1) := by decide +kernel
theorem dX5_scene_10 : decode cX5_scene 10 = .ok (.tableswitch 64 0 4 #[34, 40, 46, 52, 58], 34) := by decide +kernel
theorem dX5_scene_44 : decode cX5_scene 44 = .ok (.aload_n 0, 1) := by decide +kernel
theorem dX5_scene_45 : decode cX5_scene 45 = .ok (.iload_n 1, 1) := by decide +kernel
theorem dX5_scene_46 : decode cX5_scene 46 = .ok (.invokevirtual 161, 3) := by decide +kernel
theorem dX5_scene_49 : decode cX5_scene 49 = .ok (.ireturn, 1) := by decide +kernel
theorem dX5_scene_50 : decode cX5_scene 50 = .ok (.aload_n 0, 1) := by decide +kernel
theorem dX5_scene_51 : decode cX5_scene 51 = .ok (.iload_n 1, 1) := by decide +kernel
theorem dX5_scene_52 : decode cX5_scene 52 = .ok (.invokevirtual 113, 3) := by decide +kernel
theorem dX5_scene_55 : decode cX5_scene 55 = .ok (.ireturn, 1) := by decide +kernel
theorem dX5_scene_56 : decode cX5_scene 56 = .ok (.aload_n 0, 1) := by decide +kernel
theorem dX5_scene_57 : decode cX5_scene 57 = .ok (.iload_n 1, 1) := by decide +kernel
theorem dX5_scene_58 : decode cX5_scene 58 = .ok (.invokevirtual 189, 3) := by decide +kernel
theorem dX5_scene_61 : decode cX5_scene 61 = .ok (.ireturn, 1) := by decide +kernel
theorem dX5_scene_62 : decode cX5_scene 62 = .ok (.aload_n 0, 1) := by decide +kernel
theorem dX5_scene_63 : decode cX5_scene 63 = .ok (.iload_n 1, 1) := by decide +kernel
theorem dX5_scene_64 : decode cX5_scene 64 = .ok (.invokevirtual 192, 3) := by decide +kernel
theorem dX5_scene_67 : decode cX5_scene 67 = .ok (.ireturn, 1) := by decide +kernel
theorem dX5_scene_68 : decode cX5_scene 68 = .ok (.aload_n 0, 1) := by decide +kernel
theorem dX5_scene_69 : decode cX5_scene 69 = .ok (.iload_n 1, 1) := by decide +kernel
theorem dX5_scene_70 : decode cX5_scene 70 = .ok (.invokevirtual 195, 3) := by decide +kernel
theorem dX5_scene_73 : decode cX5_scene 73 = .ok (.ireturn, 1) := by decide +kernel
theorem dX5_scene_74 : decode cX5_scene 74 = .ok (.bipush (-2), 2) := by decide +kernel
theorem dX5_scene_76 : decode cX5_scene 76 = .ok (.ireturn, 1) := by decide +kernel
set_option maxRecDepth 20000 in
theorem ggX5_holder_X5_lieOf : GoodIn wsX5_holder wsX5_lieOf := goodIn_r _ [7, 8, 9, 10, 11, 6, 12, 53, 54, 55, 56, 57, 58, 59, 60, 61, 62, 63, 64, 65, 66, 67, 68, 69, 70] (by decide +kernel) (by decide +kernel)
set_option maxRecDepth 20000 in
theorem gX5_holder_X5_lieOf : GoodIn wsX5_holder (wsV RX5 67 RX5 yX5_lieOf wsX5_lieOf) := goodIn_app (goodIn_of _ (by decide +kernel)) ggX5_holder_X5_lieOf
set_option maxRecDepth 20000 in
theorem ggX5_holder_X5_in : GoodIn wsX5_holder wsX5_in := goodIn_r _ [15] (by decide +kernel) (by decide +kernel)
set_option maxRecDepth 20000 in
theorem gX5_holder_X5_in : GoodIn wsX5_holder (va_wsS RX5 59 yX5_in wsX5_in) := goodIn_app (goodIn_of _ (by decide +kernel)) ggX5_holder_X5_in
set_option maxRecDepth 20000 in
theorem ggX5_holder_X5_goesThrough : GoodIn wsX5_holder wsX5_goesThrough := goodIn_r _ [19, 20, 21, 8, 22, 23, 2, 24, 25, 26, 6, 27, 9, 10, 11, 12, 28, 29, 30, 31, 32, 33, 34, 35, 36, 37, 38, 39, 40, 41, 42, 43, 44, 45, 46, 47, 48, 53, 54, 55, 56, 57, 58, 59, 60, 61, 62, 63, 64, 65, 66, 67, 68, 69, 70] (by decide +kernel) (by decide +kernel)
set_option maxRecDepth 20000 in
theorem gX5_holder_X5_goesThrough : GoodIn wsX5_holder (wsV RX5 102 RX5 yX5_goesThrough wsX5_goesThrough) := goodIn_app (goodIn_of _ (by decide +kernel)) ggX5_holder_X5_goesThrough
set_option maxRecDepth 20000 in
theorem ggX5_holder_X5_rankOf : GoodIn wsX5_holder wsX5_rankOf := goodIn_r _ [52, 22, 24, 25, 26, 6, 27, 8, 9, 10, 11, 12, 53, 54, 55, 56, 57, 58, 59, 60, 61, 62, 63, 64, 65, 66, 67, 68, 69, 70] (by decide +kernel) (by decide +kernel)
set_option maxRecDepth 20000 in
theorem gX5_holder_X5_rankOf : GoodIn wsX5_holder (wsV RX5 175 RX5 yX5_rankOf wsX5_rankOf) := goodIn_app (goodIn_of _ (by decide +kernel)) ggX5_holder_X5_rankOf
theorem dX5_holder_0 : decode cX5_holder 0 = .ok (.aload_n 0, 1) := by decide +kernel
theorem dX5_holder_1 : decode cX5_holder 1 = .ok (.iload_n 2, 1) := by decide +kernel
theorem dX5_holder_2 : decode cX5_holder 2 = .ok (.invokevirtual 67, 3) := by decide +kernel
theorem dX5_holder_5 : decode cX5_holder 5 = .ok (.istore_n 3, 1) := by decide +kernel
theorem dX5_holder_6 : decode cX5_holder 6 = .ok (.iload_n 1, 1) := by decide +kernel
theorem dX5_holder_7 : decode cX5_holder 7 = .ok (.i2l, 1) := by decide +kernel
theorem dX5_holder_8 : decode cX5_holder 8 = .ok (.lconst 0, 1) := by decide +kernel
theorem dX5_holder_9 : decode cX5_holder 9 = .ok (.ldc2_w 198, 3) := by decide +kernel
theorem dX5_holder_12 : decode cX5_holder 12 = .ok (.invokestatic 59, 3) := by decide +kernel
theorem dX5_holder_15 : decode cX5_holder 15 = .ok (.ifCond .eq 9, 3) := by decide +kernel
theorem dX5_holder_18 : decode cX5_holder 18 = .ok (.iload_n 3, 1) := by decide +kernel
theorem dX5_holder_19 : decode cX5_holder 19 = .ok (.bipush (-5), 2) := by decide +kernel
theorem dX5_holder_21 : decode cX5_holder 21 = .ok (.if_icmp .ne 5, 3) := by decide +kernel
theorem dX5_holder_24 : decode cX5_holder 24 = .ok (.iconst (-1), 1) := by decide +kernel
theorem dX5_holder_25 : decode cX5_holder 25 = .ok (.ireturn, 1) := by decide +kernel
theorem dX5_holder_26 : decode cX5_holder 26 = .ok (.aload_n 0, 1) := by decide +kernel
theorem dX5_holder_27 : decode cX5_holder 27 = .ok (.invokevirtual 102, 3) := by decide +kernel
theorem dX5_holder_30 : decode cX5_holder 30 = .ok (.aload_n 0, 1) := by decide +kernel
theorem dX5_holder_31 : decode cX5_holder 31 = .ok (.getfield 40, 3) := by decide +kernel
theorem dX5_holder_34 : decode cX5_holder 34 = .ok (.bipush 10, 2) := by decide +kernel
theorem dX5_holder_36 : decode cX5_holder 36 = .ok (.aload_n 0, 1) := by decide +kernel
theorem dX5_holder_37 : decode cX5_holder 37 = .ok (.iload_n 3, 1) := by decide +kernel
theorem dX5_holder_38 : decode cX5_holder 38 = .ok (.invokevirtual 175, 3) := by decide +kernel
theorem dX5_holder_41 : decode cX5_holder 41 = .ok (.imul, 1) := by decide +kernel
theorem dX5_holder_42 : decode cX5_holder 42 = .ok (.iload_n 1, 1) := by decide +kernel
theorem dX5_holder_43 : decode cX5_holder 43 = .ok (.iadd, 1) := by decide +kernel
theorem dX5_holder_44 : decode cX5_holder 44 = .ok (.iaload, 1) := by decide +kernel
theorem dX5_holder_45 : decode cX5_holder 45 = .ok (.ireturn, 1) := by decide +kernel
set_option maxRecDepth 20000 in
theorem ggX5_breakOf_X5_in : GoodIn wsX5_breakOf wsX5_in := goodIn_r _ [7] (by decide +kernel) (by decide +kernel)
set_option maxRecDepth 20000 in
theorem gX5_breakOf_X5_in : GoodIn wsX5_breakOf (va_wsS RX5 59 yX5_in wsX5_in) := goodIn_app (goodIn_of _ (by decide +kernel)) ggX5_breakOf_X5_in
set_option maxRecDepth 20000 in
theorem ggX5_breakOf_X5_goesThrough : GoodIn wsX5_breakOf wsX5_goesThrough := goodIn_r _ [11, 2, 12, 13, 14, 15, 16, 17, 18, 19, 6, 20, 21, 22, 23, 24, 25, 26, 27, 28, 29, 30, 31, 32, 33, 34, 35, 36, 3, 37, 38, 39, 40, 41, 42, 43, 44, 45, 46, 47, 48, 49, 50, 51, 52, 53, 54, 55, 56, 57, 58, 59, 60, 61, 62] (by decide +kernel) (by decide +kernel)
set_option maxRecDepth 20000 in
theorem gX5_breakOf_X5_goesThrough : GoodIn wsX5_breakOf (wsV RX5 102 RX5 yX5_goesThrough wsX5_goesThrough) := goodIn_app (goodIn_of _ (by decide +kernel)) ggX5_breakOf_X5_goesThrough
theorem dX5_breakOf_0 : decode cX5_breakOf 0 = .ok (.iload_n 1, 1) := by decide +kernel
theorem dX5_breakOf_1 : decode cX5_breakOf 1 = .ok (.ifCond .lt 15, 3) := by decide +kernel
theorem dX5_breakOf_4 : decode cX5_breakOf 4 = .ok (.iload_n 2, 1) := by decide +kernel
theorem dX5_breakOf_5 : decode cX5_breakOf 5 = .ok (.i2l, 1) := by decide +kernel
theorem dX5_breakOf_6 : decode cX5_breakOf 6 = .ok (.lconst 0, 1) := by decide +kernel
theorem dX5_breakOf_7 : decode cX5_breakOf 7 = .ok (.ldc2_w 57, 3) := by decide +kernel
theorem dX5_breakOf_10 : decode cX5_breakOf 10 = .ok (.invokestatic 59, 3) := by decide +kernel
theorem dX5_breakOf_13 : decode cX5_breakOf 13 = .ok (.ifCond .ne 6, 3) := by decide +kernel
theorem dX5_breakOf_16 : decode cX5_breakOf 16 = .ok (.bipush (-2), 2) := by decide +kernel
theorem dX5_breakOf_18 : decode cX5_breakOf 18 = .ok (.ireturn, 1) := by decide +kernel
theorem dX5_breakOf_19 : decode cX5_breakOf 19 = .ok (.aload_n 0, 1) := by decide +kernel
theorem dX5_breakOf_20 : decode cX5_breakOf 20 = .ok (.invokevirtual 102, 3) := by decide +kernel
theorem dX5_breakOf_23 : decode cX5_breakOf 23 = .ok (.iload_n 1, 1) := by decide +kernel
theorem dX5_breakOf_24 : decode cX5_breakOf 24 = .ok (.aload_n 0, 1) := by decide +kernel
theorem dX5_breakOf_25 : decode cX5_breakOf 25 = .ok (.getfield 78, 3) := by decide +kernel
theorem dX5_breakOf_28 : decode cX5_breakOf 28 = .ok (.if_icmp .ge 16, 3) := by decide +kernel
theorem dX5_breakOf_31 : decode cX5_breakOf 31 = .ok (.aload_n 0, 1) := by decide +kernel
theorem dX5_breakOf_32 : decode cX5_breakOf 32 = .ok (.getfield 31, 3) := by decide +kernel
theorem dX5_breakOf_35 : decode cX5_breakOf 35 = .ok (.iconst 5, 1) := by decide +kernel
theorem dX5_breakOf_36 : decode cX5_breakOf 36 = .ok (.iload_n 1, 1) := by decide +kernel
theorem dX5_breakOf_37 : decode cX5_breakOf 37 = .ok (.imul, 1) := by decide +kernel
theorem dX5_breakOf_38 : decode cX5_breakOf 38 = .ok (.iload_n 2, 1) := by decide +kernel
theorem dX5_breakOf_39 : decode cX5_breakOf 39 = .ok (.iadd, 1) := by decide +kernel
theorem dX5_breakOf_40 : decode cX5_breakOf 40 = .ok (.iaload, 1) := by decide +kernel
theorem dX5_breakOf_41 : decode cX5_breakOf 41 = .ok (.goto 5, 3) := by decide +kernel
theorem dX5_breakOf_44 : decode cX5_breakOf 44 = .ok (.bipush (-5), 2) := by decide +kernel
theorem dX5_breakOf_46 : decode cX5_breakOf 46 = .ok (.ireturn, 1) := by decide +kernel
set_option maxRecDepth 20000 in
theorem ggX5_firstBreak_X5_isScene : GoodIn wsX5_firstBreak wsX5_isScene := goodIn_r _ [7, 8, 9, 10, 6, 11] (by decide +kernel) (by decide +kernel)
set_option maxRecDepth 20000 in
theorem gX5_firstBreak_X5_isScene : GoodIn wsX5_firstBreak (va_wsS RX5 158 yX5_isScene wsX5_isScene) := goodIn_app (goodIn_of _ (by decide +kernel)) ggX5_firstBreak_X5_isScene
set_option maxRecDepth 20000 in
theorem ggX5_firstBreak_X5_in : GoodIn wsX5_firstBreak wsX5_in := goodIn_r _ [11] (by decide +kernel) (by decide +kernel)
set_option maxRecDepth 20000 in
theorem gX5_firstBreak_X5_in : GoodIn wsX5_firstBreak (va_wsS RX5 59 yX5_in wsX5_in) := goodIn_app (goodIn_of _ (by decide +kernel)) ggX5_firstBreak_X5_in
set_option maxRecDepth 20000 in
theorem ggX5_firstBreak_X5_goesThrough : GoodIn wsX5_firstBreak wsX5_goesThrough := goodIn_r _ [15, 2, 16, 17, 18, 19, 20, 21, 22, 23, 6, 24, 25, 26, 27, 28, 29, 30, 31, 32, 33, 34, 35, 36, 37, 38, 39, 40, 3, 41, 42, 43, 44, 45, 46, 47, 48, 57, 58, 59, 60, 61, 62, 63, 64, 65, 66, 67, 68, 69, 70, 71, 72, 73, 74] (by decide +kernel) (by decide +kernel)
set_option maxRecDepth 20000 in
theorem gX5_firstBreak_X5_goesThrough : GoodIn wsX5_firstBreak (wsV RX5 102 RX5 yX5_goesThrough wsX5_goesThrough) := goodIn_app (goodIn_of _ (by decide +kernel)) ggX5_firstBreak_X5_goesThrough
set_option maxRecDepth 20000 in
theorem ggX5_firstBreak_X5_sceneOf : GoodIn wsX5_firstBreak wsX5_sceneOf := goodIn_r _ [52, 53, 54, 55, 6, 56, 17, 25, 26, 27, 28, 57, 58, 59, 60, 61, 62, 63, 64, 65, 66, 67, 68, 69, 70, 71, 72, 73, 74] (by decide +kernel) (by decide +kernel)
set_option maxRecDepth 20000 in
theorem gX5_firstBreak_X5_sceneOf : GoodIn wsX5_firstBreak (wsV RX5 186 RX5 yX5_sceneOf wsX5_sceneOf) := goodIn_app (goodIn_of _ (by decide +kernel)) ggX5_firstBreak_X5_sceneOf
theorem dX5_firstBreak_0 : decode cX5_firstBreak 0 = .ok (.iload_n 1, 1) := by decide +kernel
theorem dX5_firstBreak_1 : decode cX5_firstBreak 1 = .ok (.invokestatic 158, 3) := by decide +kernel
theorem dX5_firstBreak_4 : decode cX5_firstBreak 4 = .ok (.ifCond .ne 5, 3) := by decide +kernel
theorem dX5_firstBreak_7 : decode cX5_firstBreak 7 = .ok (.iconst (-1), 1) := by decide +kernel
theorem dX5_firstBreak_8 : decode cX5_firstBreak 8 = .ok (.ireturn, 1) := by decide +kernel
theorem dX5_firstBreak_9 : decode cX5_firstBreak 9 = .ok (.iload_n 2, 1) := by decide +kernel
theorem dX5_firstBreak_10 : decode cX5_firstBreak 10 = .ok (.i2l, 1) := by decide +kernel
theorem dX5_firstBreak_11 : decode cX5_firstBreak 11 = .ok (.lconst 0, 1) := by decide +kernel
theorem dX5_firstBreak_12 : decode cX5_firstBreak 12 = .ok (.ldc2_w 184, 3) := by decide +kernel
theorem dX5_firstBreak_15 : decode cX5_firstBreak 15 = .ok (.invokestatic 59, 3) := by decide +kernel
theorem dX5_firstBreak_18 : decode cX5_firstBreak 18 = .ok (.ifCond .ne 6, 3) := by decide +kernel
theorem dX5_firstBreak_21 : decode cX5_firstBreak 21 = .ok (.bipush (-2), 2) := by decide +kernel
theorem dX5_firstBreak_23 : decode cX5_firstBreak 23 = .ok (.ireturn, 1) := by decide +kernel
theorem dX5_firstBreak_24 : decode cX5_firstBreak 24 = .ok (.aload_n 0, 1) := by decide +kernel
theorem dX5_firstBreak_25 : decode cX5_firstBreak 25 = .ok (.invokevirtual 102, 3) := by decide +kernel
theorem dX5_firstBreak_28 : decode cX5_firstBreak 28 = .ok (.iconst 0, 1) := by decide +kernel
theorem dX5_firstBreak_29 : decode cX5_firstBreak 29 = .ok (.istore_n 3, 1) := by decide +kernel
theorem dX5_firstBreak_30 : decode cX5_firstBreak 30 = .ok (.iload_n 3, 1) := by decide +kernel
theorem dX5_firstBreak_31 : decode cX5_firstBreak 31 = .ok (.aload_n 0, 1) := by decide +kernel
theorem dX5_firstBreak_32 : decode cX5_firstBreak 32 = .ok (.getfield 78, 3) := by decide +kernel
theorem dX5_firstBreak_35 : decode cX5_firstBreak 35 = .ok (.if_icmp .ge 45, 3) := by decide +kernel
theorem dX5_firstBreak_38 : decode cX5_firstBreak 38 = .ok (.aload_n 0, 1) := by decide +kernel
theorem dX5_firstBreak_39 : decode cX5_firstBreak 39 = .ok (.aload_n 0, 1) := by decide +kernel
theorem dX5_firstBreak_40 : decode cX5_firstBreak 40 = .ok (.getfield 31, 3) := by decide +kernel
theorem dX5_firstBreak_43 : decode cX5_firstBreak 43 = .ok (.iconst 5, 1) := by decide +kernel
theorem dX5_firstBreak_44 : decode cX5_firstBreak 44 = .ok (.iload_n 3, 1) := by decide +kernel
theorem dX5_firstBreak_45 : decode cX5_firstBreak 45 = .ok (.imul, 1) := by decide +kernel
theorem dX5_firstBreak_46 : decode cX5_firstBreak 46 = .ok (.iaload, 1) := by decide +kernel
theorem dX5_firstBreak_47 : decode cX5_firstBreak 47 = .ok (.invokevirtual 186, 3) := by decide +kernel
theorem dX5_firstBreak_50 : decode cX5_firstBreak 50 = .ok (.iload_n 1, 1) := by decide +kernel
theorem dX5_firstBreak_51 : decode cX5_firstBreak 51 = .ok (.if_icmp .ne 23, 3) := by decide +kernel
theorem dX5_firstBreak_54 : decode cX5_firstBreak 54 = .ok (.iload_n 2, 1) := by decide +kernel
theorem dX5_firstBreak_55 : decode cX5_firstBreak 55 = .ok (.iconst 2, 1) := by decide +kernel
theorem dX5_firstBreak_56 : decode cX5_firstBreak 56 = .ok (.if_icmp .ne 7, 3) := by decide +kernel
theorem dX5_firstBreak_59 : decode cX5_firstBreak 59 = .ok (.iload_n 3, 1) := by decide +kernel
theorem dX5_firstBreak_60 : decode cX5_firstBreak 60 = .ok (.goto 13, 3) := by decide +kernel
theorem dX5_firstBreak_63 : decode cX5_firstBreak 63 = .ok (.aload_n 0, 1) := by decide +kernel
theorem dX5_firstBreak_64 : decode cX5_firstBreak 64 = .ok (.getfield 31, 3) := by decide +kernel
theorem dX5_firstBreak_67 : decode cX5_firstBreak 67 = .ok (.iconst 5, 1) := by decide +kernel
theorem dX5_firstBreak_68 : decode cX5_firstBreak 68 = .ok (.iload_n 3, 1) := by decide +kernel
theorem dX5_firstBreak_69 : decode cX5_firstBreak 69 = .ok (.imul, 1) := by decide +kernel
theorem dX5_firstBreak_70 : decode cX5_firstBreak 70 = .ok (.iload_n 2, 1) := by decide +kernel
theorem dX5_firstBreak_71 : decode cX5_firstBreak 71 = .ok (.iadd, 1) := by decide +kernel
theorem dX5_firstBreak_72 : decode cX5_firstBreak 72 = .ok (.iaload, 1) := by decide +kernel
theorem dX5_firstBreak_73 : decode cX5_firstBreak 73 = .ok (.ireturn, 1) := by decide +kernel
theorem dX5_firstBreak_74 : decode cX5_firstBreak 74 = .ok (.iinc 3 1, 3) := by decide +kernel
theorem dX5_firstBreak_77 : decode cX5_firstBreak 77 = .ok (.goto (-47), 3) := by decide +kernel
theorem dX5_firstBreak_80 : decode cX5_firstBreak 80 = .ok (.bipush (-5), 2) := by decide +kernel
theorem dX5_firstBreak_82 : decode cX5_firstBreak 82 = .ok (.ireturn, 1) := by decide +kernel
set_option maxRecDepth 20000 in
theorem ggX5_ifMoved_X5_lieOf : GoodIn wsX5_ifMoved wsX5_lieOf := goodIn_r _ [5, 6, 7, 8, 9, 4, 10, 85, 86, 87, 88, 89, 90, 91, 92, 93, 94, 95, 96, 97, 98, 99, 100, 101, 102] (by decide +kernel) (by decide +kernel)
set_option maxRecDepth 20000 in
theorem gX5_ifMoved_X5_lieOf : GoodIn wsX5_ifMoved (wsV RX5 67 RX5 yX5_lieOf wsX5_lieOf) := goodIn_app (goodIn_of _ (by decide +kernel)) ggX5_ifMoved_X5_lieOf
set_option maxRecDepth 20000 in
theorem ggX5_ifMoved_X5_isScene : GoodIn wsX5_ifMoved wsX5_isScene := goodIn_r _ [13, 14, 15, 16, 4, 17] (by decide +kernel) (by decide +kernel)
set_option maxRecDepth 20000 in
theorem gX5_ifMoved_X5_isScene : GoodIn wsX5_ifMoved (va_wsS RX5 158 yX5_isScene wsX5_isScene) := goodIn_app (goodIn_of _ (by decide +kernel)) ggX5_ifMoved_X5_isScene
set_option maxRecDepth 20000 in
theorem ggX5_ifMoved_X5_lastPlace : GoodIn wsX5_ifMoved wsX5_lastPlace := goodIn_r _ [21, 22, 23, 24, 4, 25, 6, 7, 8, 9, 10, 85, 86, 87, 88, 89, 90, 91, 92, 93, 94, 95, 96, 97, 98, 99, 100, 101, 102] (by decide +kernel) (by decide +kernel)
set_option maxRecDepth 20000 in
theorem gX5_ifMoved_X5_lastPlace : GoodIn wsX5_ifMoved (wsV RX5 119 RX5 yX5_lastPlace wsX5_lastPlace) := goodIn_app (goodIn_of _ (by decide +kernel)) ggX5_ifMoved_X5_lastPlace
set_option maxRecDepth 20000 in
theorem ggX5_ifMoved_X5_in : GoodIn wsX5_ifMoved wsX5_in := goodIn_r _ [17] (by decide +kernel) (by decide +kernel)
set_option maxRecDepth 20000 in
theorem gX5_ifMoved_X5_in : GoodIn wsX5_ifMoved (va_wsS RX5 59 yX5_in wsX5_in) := goodIn_app (goodIn_of _ (by decide +kernel)) ggX5_ifMoved_X5_in
set_option maxRecDepth 20000 in
theorem ggX5_ifMoved_X5_breaksIfMoved : GoodIn wsX5_ifMoved wsX5_breaksIfMoved := goodIn_r _ [29, 6, 30, 31, 32, 4, 33, 34, 35, 36, 37, 38, 1, 2, 3, 5, 7, 8, 9, 10, 39, 40, 41, 42, 43, 44, 45, 46, 47, 48, 49, 50, 51, 52, 53, 54, 55, 56, 57, 58, 59, 60, 61, 62, 63, 64, 65, 66, 67, 68, 69, 70, 71, 72, 73, 74, 75, 76, 77, 78, 79, 80, 81, 82, 83, 84, 85, 86, 87, 88, 89, 90, 91, 92, 93, 94, 95, 96, 97, 98, 99, 100, 101, 102] (by decide +kernel) (by decide +kernel)
set_option maxRecDepth 20000 in
theorem gX5_ifMoved_X5_breaksIfMoved : GoodIn wsX5_ifMoved (wsV RX5 116 RX5 yX5_breaksIfMoved wsX5_breaksIfMoved) := goodIn_app (goodIn_of _ (by decide +kernel)) ggX5_ifMoved_X5_breaksIfMoved
theorem dX5_ifMoved_0 : decode cX5_ifMoved 0 = .ok (.aload_n 0, 1) := by decide +kernel
theorem dX5_ifMoved_1 : decode cX5_ifMoved 1 = .ok (.iload_n 1, 1) := by decide +kernel
theorem dX5_ifMoved_2 : decode cX5_ifMoved 2 = .ok (.invokevirtual 67, 3) := by decide +kernel
theorem dX5_ifMoved_5 : decode cX5_ifMoved 5 = .ok (.istore 4, 2) := by decide +kernel
theorem dX5_ifMoved_7 : decode cX5_ifMoved 7 = .ok (.iload 4, 2) := by decide +kernel
theorem dX5_ifMoved_9 : decode cX5_ifMoved 9 = .ok (.bipush (-5), 2) := by decide +kernel
theorem dX5_ifMoved_11 : decode cX5_ifMoved 11 = .ok (.if_icmp .eq 10, 3) := by decide +kernel
theorem dX5_ifMoved_14 : decode cX5_ifMoved 14 = .ok (.iload_n 2, 1) := by decide +kernel
theorem dX5_ifMoved_15 : decode cX5_ifMoved 15 = .ok (.invokestatic 158, 3) := by decide +kernel
theorem dX5_ifMoved_18 : decode cX5_ifMoved 18 = .ok (.ifCond .ne 5, 3) := by decide +kernel
theorem dX5_ifMoved_21 : decode cX5_ifMoved 21 = .ok (.iconst (-1), 1) := by decide +kernel
theorem dX5_ifMoved_22 : decode cX5_ifMoved 22 = .ok (.ireturn, 1) := by decide +kernel
theorem dX5_ifMoved_23 : decode cX5_ifMoved 23 = .ok (.iload_n 3, 1) := by decide +kernel
theorem dX5_ifMoved_24 : decode cX5_ifMoved 24 = .ok (.i2l, 1) := by decide +kernel
theorem dX5_ifMoved_25 : decode cX5_ifMoved 25 = .ok (.lconst 0, 1) := by decide +kernel
theorem dX5_ifMoved_26 : decode cX5_ifMoved 26 = .ok (.aload_n 0, 1) := by decide +kernel
theorem dX5_ifMoved_27 : decode cX5_ifMoved 27 = .ok (.iload 4, 2) := by decide +kernel
theorem dX5_ifMoved_29 : decode cX5_ifMoved 29 = .ok (.iload_n 2, 1) := by decide +kernel
theorem dX5_ifMoved_30 : decode cX5_ifMoved 30 = .ok (.invokevirtual 119, 3) := by decide +kernel
theorem dX5_ifMoved_33 : decode cX5_ifMoved 33 = .ok (.i2l, 1) := by decide +kernel
theorem dX5_ifMoved_34 : decode cX5_ifMoved 34 = .ok (.invokestatic 59, 3) := by decide +kernel
theorem dX5_ifMoved_37 : decode cX5_ifMoved 37 = .ok (.ifCond .eq 13, 3) := by decide +kernel
theorem dX5_ifMoved_40 : decode cX5_ifMoved 40 = .ok (.aload_n 0, 1) := by decide +kernel
theorem dX5_ifMoved_41 : decode cX5_ifMoved 41 = .ok (.iload_n 1, 1) := by decide +kernel
theorem dX5_ifMoved_42 : decode cX5_ifMoved 42 = .ok (.iload_n 2, 1) := by decide +kernel
theorem dX5_ifMoved_43 : decode cX5_ifMoved 43 = .ok (.iload_n 3, 1) := by decide +kernel
theorem dX5_ifMoved_44 : decode cX5_ifMoved 44 = .ok (.invokevirtual 116, 3) := by decide +kernel
theorem dX5_ifMoved_47 : decode cX5_ifMoved 47 = .ok (.goto 5, 3) := by decide +kernel
theorem dX5_ifMoved_50 : decode cX5_ifMoved 50 = .ok (.bipush (-2), 2) := by decide +kernel
theorem dX5_ifMoved_52 : decode cX5_ifMoved 52 = .ok (.ireturn, 1) := by decide +kernel
set_option maxRecDepth 20000 in
theorem ggX5_bestPlace_X5_lieOf : GoodIn wsX5_bestPlace wsX5_lieOf := goodIn_r _ [5, 6, 7, 8, 9, 4, 10, 89, 90, 91, 92, 93, 94, 95, 96, 97, 98, 99, 100, 101, 102, 103, 104, 105, 106] (by decide +kernel) (by decide +kernel)
set_option maxRecDepth 20000 in
theorem gX5_bestPlace_X5_lieOf : GoodIn wsX5_bestPlace (wsV RX5 67 RX5 yX5_lieOf wsX5_lieOf) := goodIn_app (goodIn_of _ (by decide +kernel)) ggX5_bestPlace_X5_lieOf
set_option maxRecDepth 20000 in
theorem ggX5_bestPlace_X5_isScene : GoodIn wsX5_bestPlace wsX5_isScene := goodIn_r _ [13, 14, 15, 16, 4, 17] (by decide +kernel) (by decide +kernel)
set_option maxRecDepth 20000 in
theorem gX5_bestPlace_X5_isScene : GoodIn wsX5_bestPlace (va_wsS RX5 158 yX5_isScene wsX5_isScene) := goodIn_app (goodIn_of _ (by decide +kernel)) ggX5_bestPlace_X5_isScene
set_option maxRecDepth 20000 in
theorem ggX5_bestPlace_X5_bestPlaceOf : GoodIn wsX5_bestPlace wsX5_bestPlaceOf := goodIn_r _ [21, 22, 23, 24, 4, 25, 6, 26, 27, 28, 29, 30, 31, 32, 33, 34, 1, 2, 3, 5, 7, 8, 9, 10, 35, 36, 37, 38, 39, 40, 41, 42, 43, 44, 45, 46, 47, 48, 49, 50, 51, 52, 53, 54, 55, 56, 57, 58, 59, 60, 61, 62, 63, 64, 65, 66, 67, 68, 69, 70, 71, 72, 73, 74, 75, 76, 77, 78, 79, 80, 81, 82, 83, 84, 85, 86, 87, 88, 89, 90, 91, 92, 93, 94, 95, 96, 97, 98, 99, 100, 101, 102, 103, 104, 105, 106] (by decide +kernel) (by decide +kernel)
set_option maxRecDepth 20000 in
theorem gX5_bestPlace_X5_bestPlaceOf : GoodIn wsX5_bestPlace (wsV RX5 166 RX5 yX5_bestPlaceOf wsX5_bestPlaceOf) := goodIn_app (goodIn_of _ (by decide +kernel)) ggX5_bestPlace_X5_bestPlaceOf
theorem dX5_bestPlace_0 : decode cX5_bestPlace 0 = .ok (.aload_n 0, 1) := by decide +kernel
theorem dX5_bestPlace_1 : decode cX5_bestPlace 1 = .ok (.iload_n 1, 1) := by decide +kernel
theorem dX5_bestPlace_2 : decode cX5_bestPlace 2 = .ok (.invokevirtual 67, 3) := by decide +kernel
theorem dX5_bestPlace_5 : decode cX5_bestPlace 5 = .ok (.bipush (-5), 2) := by decide +kernel
theorem dX5_bestPlace_7 : decode cX5_bestPlace 7 = .ok (.if_icmp .eq 10, 3) := by decide +kernel
theorem dX5_bestPlace_10 : decode cX5_bestPlace 10 = .ok (.iload_n 2, 1) := by decide +kernel
theorem dX5_bestPlace_11 : decode cX5_bestPlace 11 = .ok (.invokestatic 158, 3) := by decide +kernel
theorem dX5_bestPlace_14 : decode cX5_bestPlace 14 = .ok (.ifCond .ne 7, 3) := by decide +kernel
theorem dX5_bestPlace_17 : decode cX5_bestPlace 17 = .ok (.iconst (-1), 1) := by decide +kernel
theorem dX5_bestPlace_18 : decode cX5_bestPlace 18 = .ok (.goto 9, 3) := by decide +kernel
theorem dX5_bestPlace_21 : decode cX5_bestPlace 21 = .ok (.aload_n 0, 1) := by decide +kernel
theorem dX5_bestPlace_22 : decode cX5_bestPlace 22 = .ok (.iload_n 1, 1) := by decide +kernel
theorem dX5_bestPlace_23 : decode cX5_bestPlace 23 = .ok (.iload_n 2, 1) := by decide +kernel
theorem dX5_bestPlace_24 : decode cX5_bestPlace 24 = .ok (.invokevirtual 166, 3) := by decide +kernel
theorem dX5_bestPlace_27 : decode cX5_bestPlace 27 = .ok (.ireturn, 1) := by decide +kernel
set_option maxRecDepth 20000 in
theorem ggX5_durations_X5_of : GoodIn wsX5_durations wsX5_of := goodIn_r _ [6, 1, 7, 8, 9, 10, 11, 12, 13, 14, 15, 16, 17, 18, 19, 20, 21, 22, 23, 24] (by decide +kernel) (by decide +kernel)
set_option maxRecDepth 20000 in
theorem gX5_durations_X5_of : GoodIn wsX5_durations (wsV RX5 63 RX5 yX5_of wsX5_of) := goodIn_app (goodIn_of _ (by decide +kernel)) ggX5_durations_X5_of
theorem dX5_durations_0 : decode cX5_durations 0 = .ok (.iconst 0, 1) := by decide +kernel
theorem dX5_durations_1 : decode cX5_durations 1 = .ok (.istore_n 1, 1) := by decide +kernel
theorem dX5_durations_2 : decode cX5_durations 2 = .ok (.iconst 0, 1) := by decide +kernel
theorem dX5_durations_3 : decode cX5_durations 3 = .ok (.istore_n 2, 1) := by decide +kernel
theorem dX5_durations_4 : decode cX5_durations 4 = .ok (.iload_n 2, 1) := by decide +kernel
theorem dX5_durations_5 : decode cX5_durations 5 = .ok (.aload_n 0, 1) := by decide +kernel
theorem dX5_durations_6 : decode cX5_durations 6 = .ok (.getfield 7, 3) := by decide +kernel
theorem dX5_durations_9 : decode cX5_durations 9 = .ok (.iconst 1, 1) := by decide +kernel
theorem dX5_durations_10 : decode cX5_durations 10 = .ok (.iaload, 1) := by decide +kernel
theorem dX5_durations_11 : decode cX5_durations 11 = .ok (.if_icmp .ge 18, 3) := by decide +kernel
theorem dX5_durations_14 : decode cX5_durations 14 = .ok (.iload_n 1, 1) := by decide +kernel
theorem dX5_durations_15 : decode cX5_durations 15 = .ok (.aload_n 0, 1) := by decide +kernel
theorem dX5_durations_16 : decode cX5_durations 16 = .ok (.iload_n 2, 1) := by decide +kernel
theorem dX5_durations_17 : decode cX5_durations 17 = .ok (.iconst 2, 1) := by decide +kernel
theorem dX5_durations_18 : decode cX5_durations 18 = .ok (.invokevirtual 63, 3) := by decide +kernel
theorem dX5_durations_21 : decode cX5_durations 21 = .ok (.iadd, 1) := by decide +kernel
theorem dX5_durations_22 : decode cX5_durations 22 = .ok (.istore_n 1, 1) := by decide +kernel
theorem dX5_durations_23 : decode cX5_durations 23 = .ok (.iinc 2 1, 3) := by decide +kernel
theorem dX5_durations_26 : decode cX5_durations 26 = .ok (.goto (-22), 3) := by decide +kernel
theorem dX5_durations_29 : decode cX5_durations 29 = .ok (.iload_n 1, 1) := by decide +kernel
theorem dX5_durations_30 : decode cX5_durations 30 = .ok (.ireturn, 1) := by decide +kernel
set_option maxRecDepth 20000 in
theorem ggX5_events_X5_of : GoodIn wsX5_events wsX5_of := goodIn_r _ [6, 1, 7, 8, 9, 10, 11, 12, 13, 14, 15, 16, 17, 18, 19, 20, 21, 22, 23, 24] (by decide +kernel) (by decide +kernel)
set_option maxRecDepth 20000 in
theorem gX5_events_X5_of : GoodIn wsX5_events (wsV RX5 63 RX5 yX5_of wsX5_of) := goodIn_app (goodIn_of _ (by decide +kernel)) ggX5_events_X5_of
theorem dX5_events_0 : decode cX5_events 0 = .ok (.iconst 0, 1) := by decide +kernel
theorem dX5_events_1 : decode cX5_events 1 = .ok (.istore_n 1, 1) := by decide +kernel
theorem dX5_events_2 : decode cX5_events 2 = .ok (.iconst 0, 1) := by decide +kernel
theorem dX5_events_3 : decode cX5_events 3 = .ok (.istore_n 2, 1) := by decide +kernel
theorem dX5_events_4 : decode cX5_events 4 = .ok (.iload_n 2, 1) := by decide +kernel
theorem dX5_events_5 : decode cX5_events 5 = .ok (.aload_n 0, 1) := by decide +kernel
theorem dX5_events_6 : decode cX5_events 6 = .ok (.getfield 7, 3) := by decide +kernel
theorem dX5_events_9 : decode cX5_events 9 = .ok (.iconst 1, 1) := by decide +kernel
theorem dX5_events_10 : decode cX5_events 10 = .ok (.iaload, 1) := by decide +kernel
theorem dX5_events_11 : decode cX5_events 11 = .ok (.if_icmp .ge 18, 3) := by decide +kernel
theorem dX5_events_14 : decode cX5_events 14 = .ok (.iload_n 1, 1) := by decide +kernel
theorem dX5_events_15 : decode cX5_events 15 = .ok (.aload_n 0, 1) := by decide +kernel
theorem dX5_events_16 : decode cX5_events 16 = .ok (.iload_n 2, 1) := by decide +kernel
theorem dX5_events_17 : decode cX5_events 17 = .ok (.iconst 3, 1) := by decide +kernel
theorem dX5_events_18 : decode cX5_events 18 = .ok (.invokevirtual 63, 3) := by decide +kernel
theorem dX5_events_21 : decode cX5_events 21 = .ok (.iadd, 1) := by decide +kernel
theorem dX5_events_22 : decode cX5_events 22 = .ok (.istore_n 1, 1) := by decide +kernel
theorem dX5_events_23 : decode cX5_events 23 = .ok (.iinc 2 1, 3) := by decide +kernel
theorem dX5_events_26 : decode cX5_events 26 = .ok (.goto (-22), 3) := by decide +kernel
theorem dX5_events_29 : decode cX5_events 29 = .ok (.iload_n 1, 1) := by decide +kernel
theorem dX5_events_30 : decode cX5_events 30 = .ok (.ireturn, 1) := by decide +kernel
set_option maxRecDepth 20000 in
theorem ggX5_held_X5_goesThrough : GoodIn wsX5_held wsX5_goesThrough := goodIn_r _ [6, 7, 1, 8, 9, 10, 11, 12, 13, 14, 5, 15, 16, 17, 18, 19, 20, 21, 22, 23, 24, 25, 26, 27, 28, 29, 30, 31, 32, 33, 34, 35, 36, 37, 38, 39, 40, 41, 42, 43, 44, 45, 46, 47, 48, 49, 50, 51, 52, 53, 54, 55, 56, 57, 58] (by decide +kernel) (by decide +kernel)
set_option maxRecDepth 20000 in
theorem gX5_held_X5_goesThrough : GoodIn wsX5_held (wsV RX5 102 RX5 yX5_goesThrough wsX5_goesThrough) := goodIn_app (goodIn_of _ (by decide +kernel)) ggX5_held_X5_goesThrough
theorem dX5_held_0 : decode cX5_held 0 = .ok (.aload_n 0, 1) := by decide +kernel
theorem dX5_held_1 : decode cX5_held 1 = .ok (.invokevirtual 102, 3) := by decide +kernel
theorem dX5_held_4 : decode cX5_held 4 = .ok (.iconst 0, 1) := by decide +kernel
theorem dX5_held_5 : decode cX5_held 5 = .ok (.istore_n 1, 1) := by decide +kernel
theorem dX5_held_6 : decode cX5_held 6 = .ok (.iconst 0, 1) := by decide +kernel
theorem dX5_held_7 : decode cX5_held 7 = .ok (.istore_n 2, 1) := by decide +kernel
theorem dX5_held_8 : decode cX5_held 8 = .ok (.iload_n 2, 1) := by decide +kernel
theorem dX5_held_9 : decode cX5_held 9 = .ok (.bipush 10, 2) := by decide +kernel
theorem dX5_held_11 : decode cX5_held 11 = .ok (.if_icmp .ge 28, 3) := by decide +kernel
theorem dX5_held_14 : decode cX5_held 14 = .ok (.iload_n 1, 1) := by decide +kernel
theorem dX5_held_15 : decode cX5_held 15 = .ok (.aload_n 0, 1) := by decide +kernel
theorem dX5_held_16 : decode cX5_held 16 = .ok (.getfield 34, 3) := by decide +kernel
theorem dX5_held_19 : decode cX5_held 19 = .ok (.iload_n 2, 1) := by decide +kernel
theorem dX5_held_20 : decode cX5_held 20 = .ok (.iaload, 1) := by decide +kernel
theorem dX5_held_21 : decode cX5_held 21 = .ok (.bipush (-5), 2) := by decide +kernel
theorem dX5_held_23 : decode cX5_held 23 = .ok (.if_icmp .eq 7, 3) := by decide +kernel
theorem dX5_held_26 : decode cX5_held 26 = .ok (.iconst 1, 1) := by decide +kernel
theorem dX5_held_27 : decode cX5_held 27 = .ok (.goto 4, 3) := by decide +kernel
theorem dX5_held_30 : decode cX5_held 30 = .ok (.iconst 0, 1) := by decide +kernel
theorem dX5_held_31 : decode cX5_held 31 = .ok (.iadd, 1) := by decide +kernel
theorem dX5_held_32 : decode cX5_held 32 = .ok (.istore_n 1, 1) := by decide +kernel
theorem dX5_held_33 : decode cX5_held 33 = .ok (.iinc 2 1, 3) := by decide +kernel
theorem dX5_held_36 : decode cX5_held 36 = .ok (.goto (-28), 3) := by decide +kernel
theorem dX5_held_39 : decode cX5_held 39 = .ok (.iload_n 1, 1) := by decide +kernel
theorem dX5_held_40 : decode cX5_held 40 = .ok (.ireturn, 1) := by decide +kernel
set_option maxRecDepth 20000 in
theorem ggX5_breaksOfKind_X5_goesThrough : GoodIn wsX5_breaksOfKind wsX5_goesThrough := goodIn_r _ [7, 1, 8, 9, 10, 11, 12, 13, 14, 15, 6, 16, 17, 18, 19, 20, 21, 22, 23, 24, 25, 26, 27, 28, 29, 30, 31, 32, 2, 33, 34, 35, 36, 37, 38, 39, 40, 41, 42, 43, 44, 45, 46, 47, 48, 49, 50, 51, 52, 53, 54, 55, 56, 57, 58] (by decide +kernel) (by decide +kernel)
set_option maxRecDepth 20000 in
theorem gX5_breaksOfKind_X5_goesThrough : GoodIn wsX5_breaksOfKind (wsV RX5 102 RX5 yX5_goesThrough wsX5_goesThrough) := goodIn_app (goodIn_of _ (by decide +kernel)) ggX5_breaksOfKind_X5_goesThrough
theorem dX5_breaksOfKind_0 : decode cX5_breaksOfKind 0 = .ok (.aload_n 0, 1) := by decide +kernel
theorem dX5_breaksOfKind_1 : decode cX5_breaksOfKind 1 = .ok (.invokevirtual 102, 3) := by decide +kernel
theorem dX5_breaksOfKind_4 : decode cX5_breaksOfKind 4 = .ok (.iconst 0, 1) := by decide +kernel
theorem dX5_breaksOfKind_5 : decode cX5_breaksOfKind 5 = .ok (.istore_n 2, 1) := by decide +kernel
theorem dX5_breaksOfKind_6 : decode cX5_breaksOfKind 6 = .ok (.iconst 0, 1) := by decide +kernel
theorem dX5_breaksOfKind_7 : decode cX5_breaksOfKind 7 = .ok (.istore_n 3, 1) := by decide +kernel
theorem dX5_breaksOfKind_8 : decode cX5_breaksOfKind 8 = .ok (.iload_n 3, 1) := by decide +kernel
theorem dX5_breaksOfKind_9 : decode cX5_breaksOfKind 9 = .ok (.aload_n 0, 1) := by decide +kernel
theorem dX5_breaksOfKind_10 : decode cX5_breaksOfKind 10 = .ok (.getfield 78, 3) := by decide +kernel
theorem dX5_breaksOfKind_13 : decode cX5_breaksOfKind 13 = .ok (.if_icmp .ge 31, 3) := by decide +kernel
theorem dX5_breaksOfKind_16 : decode cX5_breaksOfKind 16 = .ok (.iload_n 2, 1) := by decide +kernel
theorem dX5_breaksOfKind_17 : decode cX5_breaksOfKind 17 = .ok (.aload_n 0, 1) := by decide +kernel
theorem dX5_breaksOfKind_18 : decode cX5_breaksOfKind 18 = .ok (.getfield 31, 3) := by decide +kernel
theorem dX5_breaksOfKind_21 : decode cX5_breaksOfKind 21 = .ok (.iconst 5, 1) := by decide +kernel
theorem dX5_breaksOfKind_22 : decode cX5_breaksOfKind 22 = .ok (.iload_n 3, 1) := by decide +kernel
theorem dX5_breaksOfKind_23 : decode cX5_breaksOfKind 23 = .ok (.imul, 1) := by decide +kernel
theorem dX5_breaksOfKind_24 : decode cX5_breaksOfKind 24 = .ok (.iconst 1, 1) := by decide +kernel
theorem dX5_breaksOfKind_25 : decode cX5_breaksOfKind 25 = .ok (.iadd, 1) := by decide +kernel
theorem dX5_breaksOfKind_26 : decode cX5_breaksOfKind 26 = .ok (.iaload, 1) := by decide +kernel
theorem dX5_breaksOfKind_27 : decode cX5_breaksOfKind 27 = .ok (.iload_n 1, 1) := by decide +kernel
theorem dX5_breaksOfKind_28 : decode cX5_breaksOfKind 28 = .ok (.if_icmp .ne 7, 3) := by decide +kernel
theorem dX5_breaksOfKind_31 : decode cX5_breaksOfKind 31 = .ok (.iconst 1, 1) := by decide +kernel
theorem dX5_breaksOfKind_32 : decode cX5_breaksOfKind 32 = .ok (.goto 4, 3) := by decide +kernel
theorem dX5_breaksOfKind_35 : decode cX5_breaksOfKind 35 = .ok (.iconst 0, 1) := by decide +kernel
theorem dX5_breaksOfKind_36 : decode cX5_breaksOfKind 36 = .ok (.iadd, 1) := by decide +kernel
theorem dX5_breaksOfKind_37 : decode cX5_breaksOfKind 37 = .ok (.istore_n 2, 1) := by decide +kernel
theorem dX5_breaksOfKind_38 : decode cX5_breaksOfKind 38 = .ok (.iinc 3 1, 3) := by decide +kernel
theorem dX5_breaksOfKind_41 : decode cX5_breaksOfKind 41 = .ok (.goto (-33), 3) := by decide +kernel
theorem dX5_breaksOfKind_44 : decode cX5_breaksOfKind 44 = .ok (.iload_n 2, 1) := by decide +kernel
theorem dX5_breaksOfKind_45 : decode cX5_breaksOfKind 45 = .ok (.ireturn, 1) := by decide +kernel
set_option maxRecDepth 20000 in
theorem ggX5_count_X5_durations : GoodIn wsX5_count wsX5_durations := goodIn_r _ [8, 1, 9, 10, 11, 7, 12, 63, 64, 65, 66, 67, 68, 69, 70, 71, 72, 73, 74, 75, 76, 77, 78, 79, 80] (by decide +kernel) (by decide +kernel)
set_option maxRecDepth 20000 in
theorem gX5_count_X5_durations : GoodIn wsX5_count (wsV RX5 200 RX5 yX5_durations wsX5_durations) := goodIn_app (goodIn_of _ (by decide +kernel)) ggX5_count_X5_durations
set_option maxRecDepth 20000 in
theorem ggX5_count_X5_breaksNow : GoodIn wsX5_count wsX5_breaksNow := goodIn_r _ [16, 17, 18, 19, 20, 7, 21, 22, 1, 23, 24, 25, 26, 27, 28, 29, 9, 10, 11, 12, 30, 31, 32, 33, 34, 35, 36, 37, 38, 39, 40, 41, 42, 43, 44, 45, 46, 47, 48, 49, 50, 63, 64, 65, 66, 67, 68, 69, 70, 71, 72, 73, 74, 75, 76, 77, 78, 79, 80] (by decide +kernel) (by decide +kernel)
set_option maxRecDepth 20000 in
theorem gX5_count_X5_breaksNow : GoodIn wsX5_count (wsV RX5 109 RX5 yX5_breaksNow wsX5_breaksNow) := goodIn_app (goodIn_of _ (by decide +kernel)) ggX5_count_X5_breaksNow
set_option maxRecDepth 20000 in
theorem ggX5_count_X5_events : GoodIn wsX5_count wsX5_events := goodIn_r _ [54, 1, 9, 10, 11, 7, 12, 63, 64, 65, 66, 67, 68, 69, 70, 71, 72, 73, 74, 75, 76, 77, 78, 79, 80] (by decide +kernel) (by decide +kernel)
set_option maxRecDepth 20000 in
theorem gX5_count_X5_events : GoodIn wsX5_count (wsV RX5 203 RX5 yX5_events wsX5_events) := goodIn_app (goodIn_of _ (by decide +kernel)) ggX5_count_X5_events
set_option maxRecDepth 20000 in
theorem ggX5_count_X5_held : GoodIn wsX5_count wsX5_held := goodIn_r _ [58, 22, 18, 19, 20, 7, 21, 17, 1, 23, 24, 25, 26, 27, 28, 29, 9, 10, 11, 12, 30, 31, 32, 33, 34, 35, 36, 37, 38, 39, 40, 41, 42, 43, 44, 45, 46, 47, 48, 49, 50, 63, 64, 65, 66, 67, 68, 69, 70, 71, 72, 73, 74, 75, 76, 77, 78, 79, 80] (by decide +kernel) (by decide +kernel)
set_option maxRecDepth 20000 in
theorem gX5_count_X5_held : GoodIn wsX5_count (wsV RX5 206 RX5 yX5_held wsX5_held) := goodIn_app (goodIn_of _ (by decide +kernel)) ggX5_count_X5_held
set_option maxRecDepth 20000 in
theorem ggX5_count_X5_breaksOfKind : GoodIn wsX5_count wsX5_breaksOfKind := goodIn_r _ [62, 17, 42, 18, 19, 20, 7, 21, 22, 1, 23, 24, 25, 26, 27, 28, 29, 9, 10, 11, 12, 30, 31, 32, 33, 34, 35, 36, 37, 38, 39, 40, 41, 43, 44, 45, 46, 47, 48, 49, 50, 63, 64, 65, 66, 67, 68, 69, 70, 71, 72, 73, 74, 75, 76, 77, 78, 79, 80] (by decide +kernel) (by decide +kernel)
set_option maxRecDepth 20000 in
theorem gX5_count_X5_breaksOfKind : GoodIn wsX5_count (wsV RX5 209 RX5 yX5_breaksOfKind wsX5_breaksOfKind) := goodIn_app (goodIn_of _ (by decide +kernel)) ggX5_count_X5_breaksOfKind
theorem dX5_count_0 : decode cX5_count 0 = .ok (.iload_n 1, 1) := by decide +kernel
theorem dX5_count_1 : decode cX5_count 1 = .ok (.tableswitch 119 0 12 #[67, 74, 81, 86, 91, 96, 101, 101, 101, 101, 101, 109, 114], 67) := by decide +kernel
theorem dX5_count_68 : decode cX5_count 68 = .ok (.aload_n 0, 1) := by decide +kernel
theorem dX5_count_69 : decode cX5_count 69 = .ok (.getfield 7, 3) := by decide +kernel
theorem dX5_count_72 : decode cX5_count 72 = .ok (.iconst 1, 1) := by decide +kernel
theorem dX5_count_73 : decode cX5_count 73 = .ok (.iaload, 1) := by decide +kernel
theorem dX5_count_74 : decode cX5_count 74 = .ok (.ireturn, 1) := by decide +kernel
theorem dX5_count_75 : decode cX5_count 75 = .ok (.aload_n 0, 1) := by decide +kernel
theorem dX5_count_76 : decode cX5_count 76 = .ok (.getfield 7, 3) := by decide +kernel
theorem dX5_count_79 : decode cX5_count 79 = .ok (.iconst 0, 1) := by decide +kernel
theorem dX5_count_80 : decode cX5_count 80 = .ok (.iaload, 1) := by decide +kernel
theorem dX5_count_81 : decode cX5_count 81 = .ok (.ireturn, 1) := by decide +kernel
theorem dX5_count_82 : decode cX5_count 82 = .ok (.aload_n 0, 1) := by decide +kernel
theorem dX5_count_83 : decode cX5_count 83 = .ok (.invokevirtual 200, 3) := by decide +kernel
theorem dX5_count_86 : decode cX5_count 86 = .ok (.ireturn, 1) := by decide +kernel
theorem dX5_count_87 : decode cX5_count 87 = .ok (.aload_n 0, 1) := by decide +kernel
theorem dX5_count_88 : decode cX5_count 88 = .ok (.invokevirtual 109, 3) := by decide +kernel
theorem dX5_count_91 : decode cX5_count 91 = .ok (.ireturn, 1) := by decide +kernel
theorem dX5_count_92 : decode cX5_count 92 = .ok (.aload_n 0, 1) := by decide +kernel
theorem dX5_count_93 : decode cX5_count 93 = .ok (.invokevirtual 203, 3) := by decide +kernel
theorem dX5_count_96 : decode cX5_count 96 = .ok (.ireturn, 1) := by decide +kernel
theorem dX5_count_97 : decode cX5_count 97 = .ok (.aload_n 0, 1) := by decide +kernel
theorem dX5_count_98 : decode cX5_count 98 = .ok (.invokevirtual 206, 3) := by decide +kernel
theorem dX5_count_101 : decode cX5_count 101 = .ok (.ireturn, 1) := by decide +kernel
theorem dX5_count_102 : decode cX5_count 102 = .ok (.aload_n 0, 1) := by decide +kernel
theorem dX5_count_103 : decode cX5_count 103 = .ok (.iload_n 1, 1) := by decide +kernel
theorem dX5_count_104 : decode cX5_count 104 = .ok (.iconst 5, 1) := by decide +kernel
theorem dX5_count_105 : decode cX5_count 105 = .ok (.isub, 1) := by decide +kernel
theorem dX5_count_106 : decode cX5_count 106 = .ok (.invokevirtual 209, 3) := by decide +kernel
theorem dX5_count_109 : decode cX5_count 109 = .ok (.ireturn, 1) := by decide +kernel
theorem dX5_count_110 : decode cX5_count 110 = .ok (.aload_n 0, 1) := by decide +kernel
theorem dX5_count_111 : decode cX5_count 111 = .ok (.getfield 53, 3) := by decide +kernel
theorem dX5_count_114 : decode cX5_count 114 = .ok (.ireturn, 1) := by decide +kernel
theorem dX5_count_115 : decode cX5_count 115 = .ok (.aload_n 0, 1) := by decide +kernel
theorem dX5_count_116 : decode cX5_count 116 = .ok (.getfield 122, 3) := by decide +kernel
theorem dX5_count_119 : decode cX5_count 119 = .ok (.ireturn, 1) := by decide +kernel
theorem dX5_count_120 : decode cX5_count 120 = .ok (.bipush (-2), 2) := by decide +kernel
theorem dX5_count_122 : decode cX5_count 122 = .ok (.ireturn, 1) := by decide +kernel
