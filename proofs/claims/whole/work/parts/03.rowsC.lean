set_option maxRecDepth 20000 in
theorem ggX0_init_X4_fillRow : GoodIn wsX0_init wsX4_fillRow := goodIn_r _ [16] (by decide +kernel) (by decide +kernel)
set_option maxRecDepth 20000 in
theorem gX0_init_X4_fillRow_n40 : GoodIn wsX0_init (wsX4_fillRow) := ggX0_init_X4_fillRow
set_option maxRecDepth 20000 in
theorem ggX0_init_X4_setCell : GoodIn wsX0_init wsX4_setCell := goodIn_r _ [18] (by decide +kernel) (by decide +kernel)
set_option maxRecDepth 20000 in
theorem gX0_init_X4_setCell_n44 : GoodIn wsX0_init (wsX4_setCell) := ggX0_init_X4_setCell
theorem dX0_init_0 : decode cX0_init 0 = .ok (.aload_n 0, 1) := by decide +kernel
theorem dX0_init_1 : decode cX0_init 1 = .ok (.invokespecial 3, 3) := by decide +kernel
theorem dX0_init_4 : decode cX0_init 4 = .ok (.aload_n 0, 1) := by decide +kernel
theorem dX0_init_5 : decode cX0_init 5 = .ok (.bipush 10, 2) := by decide +kernel
theorem dX0_init_7 : decode cX0_init 7 = .ok (.newarray .int, 2) := by decide +kernel
theorem dX0_init_9 : decode cX0_init 9 = .ok (.putfield 9, 3) := by decide +kernel
theorem dX0_init_12 : decode cX0_init 12 = .ok (.aload_n 0, 1) := by decide +kernel
theorem dX0_init_13 : decode cX0_init 13 = .ok (.bipush 10, 2) := by decide +kernel
theorem dX0_init_15 : decode cX0_init 15 = .ok (.newarray .int, 2) := by decide +kernel
theorem dX0_init_17 : decode cX0_init 17 = .ok (.putfield 15, 3) := by decide +kernel
theorem dX0_init_20 : decode cX0_init 20 = .ok (.aload_n 0, 1) := by decide +kernel
theorem dX0_init_21 : decode cX0_init 21 = .ok (.bipush 10, 2) := by decide +kernel
theorem dX0_init_23 : decode cX0_init 23 = .ok (.newarray .int, 2) := by decide +kernel
theorem dX0_init_25 : decode cX0_init 25 = .ok (.putfield 18, 3) := by decide +kernel
theorem dX0_init_28 : decode cX0_init 28 = .ok (.aload_n 0, 1) := by decide +kernel
theorem dX0_init_29 : decode cX0_init 29 = .ok (.bipush 10, 2) := by decide +kernel
theorem dX0_init_31 : decode cX0_init 31 = .ok (.newarray .int, 2) := by decide +kernel
theorem dX0_init_33 : decode cX0_init 33 = .ok (.putfield 21, 3) := by decide +kernel
theorem dX0_init_36 : decode cX0_init 36 = .ok (.aload_n 0, 1) := by decide +kernel
theorem dX0_init_37 : decode cX0_init 37 = .ok (.bipush 60, 2) := by decide +kernel
theorem dX0_init_39 : decode cX0_init 39 = .ok (.newarray .int, 2) := by decide +kernel
theorem dX0_init_41 : decode cX0_init 41 = .ok (.putfield 24, 3) := by decide +kernel
theorem dX0_init_44 : decode cX0_init 44 = .ok (.aload_n 0, 1) := by decide +kernel
theorem dX0_init_45 : decode cX0_init 45 = .ok (.bipush 10, 2) := by decide +kernel
theorem dX0_init_47 : decode cX0_init 47 = .ok (.newarray .int, 2) := by decide +kernel
theorem dX0_init_49 : decode cX0_init 49 = .ok (.putfield 27, 3) := by decide +kernel
theorem dX0_init_52 : decode cX0_init 52 = .ok (.aload_n 0, 1) := by decide +kernel
theorem dX0_init_53 : decode cX0_init 53 = .ok (.iconst 5, 1) := by decide +kernel
theorem dX0_init_54 : decode cX0_init 54 = .ok (.newarray .int, 2) := by decide +kernel
theorem dX0_init_56 : decode cX0_init 56 = .ok (.putfield 30, 3) := by decide +kernel
theorem dX0_init_59 : decode cX0_init 59 = .ok (.aload_n 0, 1) := by decide +kernel
theorem dX0_init_60 : decode cX0_init 60 = .ok (.iconst 0, 1) := by decide +kernel
theorem dX0_init_61 : decode cX0_init 61 = .ok (.putfield 33, 3) := by decide +kernel
theorem dX0_init_64 : decode cX0_init 64 = .ok (.aload_n 0, 1) := by decide +kernel
theorem dX0_init_65 : decode cX0_init 65 = .ok (.iconst 0, 1) := by decide +kernel
theorem dX0_init_66 : decode cX0_init 66 = .ok (.putfield 37, 3) := by decide +kernel
theorem dX0_init_69 : decode cX0_init 69 = .ok (.aload_n 0, 1) := by decide +kernel
theorem dX0_init_70 : decode cX0_init 70 = .ok (.getfield 9, 3) := by decide +kernel
theorem dX0_init_73 : decode cX0_init 73 = .ok (.iconst (-1), 1) := by decide +kernel
theorem dX0_init_74 : decode cX0_init 74 = .ok (.invokestatic 40, 3) := by decide +kernel
theorem dX0_init_77 : decode cX0_init 77 = .ok (.iconst 0, 1) := by decide +kernel
theorem dX0_init_78 : decode cX0_init 78 = .ok (.istore_n 1, 1) := by decide +kernel
theorem dX0_init_79 : decode cX0_init 79 = .ok (.iload_n 1, 1) := by decide +kernel
theorem dX0_init_80 : decode cX0_init 80 = .ok (.iconst 5, 1) := by decide +kernel
theorem dX0_init_81 : decode cX0_init 81 = .ok (.if_icmp .ge 18, 3) := by decide +kernel
theorem dX0_init_84 : decode cX0_init 84 = .ok (.aload_n 0, 1) := by decide +kernel
theorem dX0_init_85 : decode cX0_init 85 = .ok (.getfield 30, 3) := by decide +kernel
theorem dX0_init_88 : decode cX0_init 88 = .ok (.iload_n 1, 1) := by decide +kernel
theorem dX0_init_89 : decode cX0_init 89 = .ok (.iload_n 1, 1) := by decide +kernel
theorem dX0_init_90 : decode cX0_init 90 = .ok (.invokestatic 44, 3) := by decide +kernel
theorem dX0_init_93 : decode cX0_init 93 = .ok (.iinc 1 1, 3) := by decide +kernel
theorem dX0_init_96 : decode cX0_init 96 = .ok (.goto (-17), 3) := by decide +kernel
theorem dX0_init_99 : decode cX0_init 99 = .ok (.return_, 1) := by decide +kernel
set_option maxRecDepth 20000 in
theorem ggX0_copyFrom_X4_copyRow : GoodIn wsX0_copyFrom wsX4_copyRow := goodIn_r _ [12] (by decide +kernel) (by decide +kernel)
set_option maxRecDepth 20000 in
theorem gX0_copyFrom_X4_copyRow_n48 : GoodIn wsX0_copyFrom (wsX4_copyRow) := ggX0_copyFrom_X4_copyRow
theorem dX0_copyFrom_0 : decode cX0_copyFrom 0 = .ok (.aload_n 1, 1) := by decide +kernel
theorem dX0_copyFrom_1 : decode cX0_copyFrom 1 = .ok (.getfield 9, 3) := by decide +kernel
theorem dX0_copyFrom_4 : decode cX0_copyFrom 4 = .ok (.aload_n 0, 1) := by decide +kernel
theorem dX0_copyFrom_5 : decode cX0_copyFrom 5 = .ok (.getfield 9, 3) := by decide +kernel
theorem dX0_copyFrom_8 : decode cX0_copyFrom 8 = .ok (.invokestatic 48, 3) := by decide +kernel
theorem dX0_copyFrom_11 : decode cX0_copyFrom 11 = .ok (.aload_n 1, 1) := by decide +kernel
theorem dX0_copyFrom_12 : decode cX0_copyFrom 12 = .ok (.getfield 15, 3) := by decide +kernel
theorem dX0_copyFrom_15 : decode cX0_copyFrom 15 = .ok (.aload_n 0, 1) := by decide +kernel
theorem dX0_copyFrom_16 : decode cX0_copyFrom 16 = .ok (.getfield 15, 3) := by decide +kernel
theorem dX0_copyFrom_19 : decode cX0_copyFrom 19 = .ok (.invokestatic 48, 3) := by decide +kernel
theorem dX0_copyFrom_22 : decode cX0_copyFrom 22 = .ok (.aload_n 1, 1) := by decide +kernel
theorem dX0_copyFrom_23 : decode cX0_copyFrom 23 = .ok (.getfield 18, 3) := by decide +kernel
theorem dX0_copyFrom_26 : decode cX0_copyFrom 26 = .ok (.aload_n 0, 1) := by decide +kernel
theorem dX0_copyFrom_27 : decode cX0_copyFrom 27 = .ok (.getfield 18, 3) := by decide +kernel
theorem dX0_copyFrom_30 : decode cX0_copyFrom 30 = .ok (.invokestatic 48, 3) := by decide +kernel
theorem dX0_copyFrom_33 : decode cX0_copyFrom 33 = .ok (.aload_n 1, 1) := by decide +kernel
theorem dX0_copyFrom_34 : decode cX0_copyFrom 34 = .ok (.getfield 21, 3) := by decide +kernel
theorem dX0_copyFrom_37 : decode cX0_copyFrom 37 = .ok (.aload_n 0, 1) := by decide +kernel
theorem dX0_copyFrom_38 : decode cX0_copyFrom 38 = .ok (.getfield 21, 3) := by decide +kernel
theorem dX0_copyFrom_41 : decode cX0_copyFrom 41 = .ok (.invokestatic 48, 3) := by decide +kernel
theorem dX0_copyFrom_44 : decode cX0_copyFrom 44 = .ok (.aload_n 1, 1) := by decide +kernel
theorem dX0_copyFrom_45 : decode cX0_copyFrom 45 = .ok (.getfield 24, 3) := by decide +kernel
theorem dX0_copyFrom_48 : decode cX0_copyFrom 48 = .ok (.aload_n 0, 1) := by decide +kernel
theorem dX0_copyFrom_49 : decode cX0_copyFrom 49 = .ok (.getfield 24, 3) := by decide +kernel
theorem dX0_copyFrom_52 : decode cX0_copyFrom 52 = .ok (.invokestatic 48, 3) := by decide +kernel
theorem dX0_copyFrom_55 : decode cX0_copyFrom 55 = .ok (.aload_n 1, 1) := by decide +kernel
theorem dX0_copyFrom_56 : decode cX0_copyFrom 56 = .ok (.getfield 27, 3) := by decide +kernel
theorem dX0_copyFrom_59 : decode cX0_copyFrom 59 = .ok (.aload_n 0, 1) := by decide +kernel
theorem dX0_copyFrom_60 : decode cX0_copyFrom 60 = .ok (.getfield 27, 3) := by decide +kernel
theorem dX0_copyFrom_63 : decode cX0_copyFrom 63 = .ok (.invokestatic 48, 3) := by decide +kernel
theorem dX0_copyFrom_66 : decode cX0_copyFrom 66 = .ok (.aload_n 1, 1) := by decide +kernel
theorem dX0_copyFrom_67 : decode cX0_copyFrom 67 = .ok (.getfield 30, 3) := by decide +kernel
theorem dX0_copyFrom_70 : decode cX0_copyFrom 70 = .ok (.aload_n 0, 1) := by decide +kernel
theorem dX0_copyFrom_71 : decode cX0_copyFrom 71 = .ok (.getfield 30, 3) := by decide +kernel
theorem dX0_copyFrom_74 : decode cX0_copyFrom 74 = .ok (.invokestatic 48, 3) := by decide +kernel
theorem dX0_copyFrom_77 : decode cX0_copyFrom 77 = .ok (.aload_n 0, 1) := by decide +kernel
theorem dX0_copyFrom_78 : decode cX0_copyFrom 78 = .ok (.aload_n 1, 1) := by decide +kernel
theorem dX0_copyFrom_79 : decode cX0_copyFrom 79 = .ok (.getfield 33, 3) := by decide +kernel
theorem dX0_copyFrom_82 : decode cX0_copyFrom 82 = .ok (.putfield 33, 3) := by decide +kernel
theorem dX0_copyFrom_85 : decode cX0_copyFrom 85 = .ok (.aload_n 0, 1) := by decide +kernel
theorem dX0_copyFrom_86 : decode cX0_copyFrom 86 = .ok (.aload_n 1, 1) := by decide +kernel
theorem dX0_copyFrom_87 : decode cX0_copyFrom 87 = .ok (.getfield 37, 3) := by decide +kernel
theorem dX0_copyFrom_90 : decode cX0_copyFrom 90 = .ok (.putfield 37, 3) := by decide +kernel
theorem dX0_copyFrom_93 : decode cX0_copyFrom 93 = .ok (.return_, 1) := by decide +kernel
theorem dX0_hasRoom_0 : decode cX0_hasRoom 0 = .ok (.aload_n 0, 1) := by decide +kernel
theorem dX0_hasRoom_1 : decode cX0_hasRoom 1 = .ok (.getfield 33, 3) := by decide +kernel
theorem dX0_hasRoom_4 : decode cX0_hasRoom 4 = .ok (.bipush 10, 2) := by decide +kernel
theorem dX0_hasRoom_6 : decode cX0_hasRoom 6 = .ok (.if_icmp .ge 16, 3) := by decide +kernel
theorem dX0_hasRoom_9 : decode cX0_hasRoom 9 = .ok (.aload_n 0, 1) := by decide +kernel
theorem dX0_hasRoom_10 : decode cX0_hasRoom 10 = .ok (.getfield 37, 3) := by decide +kernel
theorem dX0_hasRoom_13 : decode cX0_hasRoom 13 = .ok (.bipush 99, 2) := by decide +kernel
theorem dX0_hasRoom_15 : decode cX0_hasRoom 15 = .ok (.if_icmp .ge 7, 3) := by decide +kernel
theorem dX0_hasRoom_18 : decode cX0_hasRoom 18 = .ok (.iconst 1, 1) := by decide +kernel
theorem dX0_hasRoom_19 : decode cX0_hasRoom 19 = .ok (.goto 4, 3) := by decide +kernel
theorem dX0_hasRoom_22 : decode cX0_hasRoom 22 = .ok (.iconst 0, 1) := by decide +kernel
theorem dX0_hasRoom_23 : decode cX0_hasRoom 23 = .ok (.ireturn, 1) := by decide +kernel
set_option maxRecDepth 20000 in
theorem ggX0_slotOf_X4_cell : GoodIn wsX0_slotOf wsX4_cell := goodIn_r _ [4] (by decide +kernel) (by decide +kernel)
set_option maxRecDepth 20000 in
theorem gX0_slotOf_X4_cell_n52 : GoodIn wsX0_slotOf (wsX4_cell) := ggX0_slotOf_X4_cell
theorem dX0_slotOf_0 : decode cX0_slotOf 0 = .ok (.iload_n 1, 1) := by decide +kernel
theorem dX0_slotOf_1 : decode cX0_slotOf 1 = .ok (.ifCond .ge 5, 3) := by decide +kernel
theorem dX0_slotOf_4 : decode cX0_slotOf 4 = .ok (.iconst (-1), 1) := by decide +kernel
theorem dX0_slotOf_5 : decode cX0_slotOf 5 = .ok (.ireturn, 1) := by decide +kernel
theorem dX0_slotOf_6 : decode cX0_slotOf 6 = .ok (.iconst 0, 1) := by decide +kernel
theorem dX0_slotOf_7 : decode cX0_slotOf 7 = .ok (.istore_n 2, 1) := by decide +kernel
theorem dX0_slotOf_8 : decode cX0_slotOf 8 = .ok (.iload_n 2, 1) := by decide +kernel
theorem dX0_slotOf_9 : decode cX0_slotOf 9 = .ok (.bipush 10, 2) := by decide +kernel
theorem dX0_slotOf_11 : decode cX0_slotOf 11 = .ok (.if_icmp .ge 23, 3) := by decide +kernel
theorem dX0_slotOf_14 : decode cX0_slotOf 14 = .ok (.aload_n 0, 1) := by decide +kernel
theorem dX0_slotOf_15 : decode cX0_slotOf 15 = .ok (.getfield 9, 3) := by decide +kernel
theorem dX0_slotOf_18 : decode cX0_slotOf 18 = .ok (.iload_n 2, 1) := by decide +kernel
theorem dX0_slotOf_19 : decode cX0_slotOf 19 = .ok (.invokestatic 52, 3) := by decide +kernel
theorem dX0_slotOf_22 : decode cX0_slotOf 22 = .ok (.iload_n 1, 1) := by decide +kernel
theorem dX0_slotOf_23 : decode cX0_slotOf 23 = .ok (.if_icmp .ne 5, 3) := by decide +kernel
theorem dX0_slotOf_26 : decode cX0_slotOf 26 = .ok (.iload_n 2, 1) := by decide +kernel
theorem dX0_slotOf_27 : decode cX0_slotOf 27 = .ok (.ireturn, 1) := by decide +kernel
theorem dX0_slotOf_28 : decode cX0_slotOf 28 = .ok (.iinc 2 1, 3) := by decide +kernel
theorem dX0_slotOf_31 : decode cX0_slotOf 31 = .ok (.goto (-23), 3) := by decide +kernel
theorem dX0_slotOf_34 : decode cX0_slotOf 34 = .ok (.iconst (-1), 1) := by decide +kernel
theorem dX0_slotOf_35 : decode cX0_slotOf 35 = .ok (.ireturn, 1) := by decide +kernel
set_option maxRecDepth 20000 in
theorem ggX0_freeSlot_X4_cell : GoodIn wsX0_freeSlot wsX4_cell := goodIn_r _ [4] (by decide +kernel) (by decide +kernel)
set_option maxRecDepth 20000 in
theorem gX0_freeSlot_X4_cell_n52 : GoodIn wsX0_freeSlot (wsX4_cell) := ggX0_freeSlot_X4_cell
theorem dX0_freeSlot_0 : decode cX0_freeSlot 0 = .ok (.iconst 0, 1) := by decide +kernel
theorem dX0_freeSlot_1 : decode cX0_freeSlot 1 = .ok (.istore_n 1, 1) := by decide +kernel
theorem dX0_freeSlot_2 : decode cX0_freeSlot 2 = .ok (.iload_n 1, 1) := by decide +kernel
theorem dX0_freeSlot_3 : decode cX0_freeSlot 3 = .ok (.bipush 10, 2) := by decide +kernel
theorem dX0_freeSlot_5 : decode cX0_freeSlot 5 = .ok (.if_icmp .ge 23, 3) := by decide +kernel
theorem dX0_freeSlot_8 : decode cX0_freeSlot 8 = .ok (.aload_n 0, 1) := by decide +kernel
theorem dX0_freeSlot_9 : decode cX0_freeSlot 9 = .ok (.getfield 9, 3) := by decide +kernel
theorem dX0_freeSlot_12 : decode cX0_freeSlot 12 = .ok (.iload_n 1, 1) := by decide +kernel
theorem dX0_freeSlot_13 : decode cX0_freeSlot 13 = .ok (.invokestatic 52, 3) := by decide +kernel
theorem dX0_freeSlot_16 : decode cX0_freeSlot 16 = .ok (.iconst (-1), 1) := by decide +kernel
theorem dX0_freeSlot_17 : decode cX0_freeSlot 17 = .ok (.if_icmp .ne 5, 3) := by decide +kernel
theorem dX0_freeSlot_20 : decode cX0_freeSlot 20 = .ok (.iload_n 1, 1) := by decide +kernel
theorem dX0_freeSlot_21 : decode cX0_freeSlot 21 = .ok (.ireturn, 1) := by decide +kernel
theorem dX0_freeSlot_22 : decode cX0_freeSlot 22 = .ok (.iinc 1 1, 3) := by decide +kernel
theorem dX0_freeSlot_25 : decode cX0_freeSlot 25 = .ok (.goto (-23), 3) := by decide +kernel
theorem dX0_freeSlot_28 : decode cX0_freeSlot 28 = .ok (.iconst (-1), 1) := by decide +kernel
theorem dX0_freeSlot_29 : decode cX0_freeSlot 29 = .ok (.ireturn, 1) := by decide +kernel
set_option maxRecDepth 20000 in
theorem ggX0_numberOf_X4_cell : GoodIn wsX0_numberOf wsX4_cell := goodIn_r _ [4] (by decide +kernel) (by decide +kernel)
set_option maxRecDepth 20000 in
theorem gX0_numberOf_X4_cell_n52 : GoodIn wsX0_numberOf (wsX4_cell) := ggX0_numberOf_X4_cell
theorem dX0_numberOf_0 : decode cX0_numberOf 0 = .ok (.aload_n 0, 1) := by decide +kernel
theorem dX0_numberOf_1 : decode cX0_numberOf 1 = .ok (.getfield 9, 3) := by decide +kernel
theorem dX0_numberOf_4 : decode cX0_numberOf 4 = .ok (.iload_n 1, 1) := by decide +kernel
theorem dX0_numberOf_5 : decode cX0_numberOf 5 = .ok (.invokestatic 52, 3) := by decide +kernel
theorem dX0_numberOf_8 : decode cX0_numberOf 8 = .ok (.ireturn, 1) := by decide +kernel
set_option maxRecDepth 20000 in
theorem ggX0_sceneOf_X4_cell : GoodIn wsX0_sceneOf wsX4_cell := goodIn_r _ [4] (by decide +kernel) (by decide +kernel)
set_option maxRecDepth 20000 in
theorem gX0_sceneOf_X4_cell_n52 : GoodIn wsX0_sceneOf (wsX4_cell) := ggX0_sceneOf_X4_cell
theorem dX0_sceneOf_0 : decode cX0_sceneOf 0 = .ok (.aload_n 0, 1) := by decide +kernel
theorem dX0_sceneOf_1 : decode cX0_sceneOf 1 = .ok (.getfield 15, 3) := by decide +kernel
theorem dX0_sceneOf_4 : decode cX0_sceneOf 4 = .ok (.iload_n 1, 1) := by decide +kernel
theorem dX0_sceneOf_5 : decode cX0_sceneOf 5 = .ok (.invokestatic 52, 3) := by decide +kernel
theorem dX0_sceneOf_8 : decode cX0_sceneOf 8 = .ok (.ireturn, 1) := by decide +kernel
set_option maxRecDepth 20000 in
theorem ggX0_durationOf_X4_cell : GoodIn wsX0_durationOf wsX4_cell := goodIn_r _ [4] (by decide +kernel) (by decide +kernel)
set_option maxRecDepth 20000 in
theorem gX0_durationOf_X4_cell_n52 : GoodIn wsX0_durationOf (wsX4_cell) := ggX0_durationOf_X4_cell
theorem dX0_durationOf_0 : decode cX0_durationOf 0 = .ok (.aload_n 0, 1) := by decide +kernel
theorem dX0_durationOf_1 : decode cX0_durationOf 1 = .ok (.getfield 18, 3) := by decide +kernel
theorem dX0_durationOf_4 : decode cX0_durationOf 4 = .ok (.iload_n 1, 1) := by decide +kernel
theorem dX0_durationOf_5 : decode cX0_durationOf 5 = .ok (.invokestatic 52, 3) := by decide +kernel
theorem dX0_durationOf_8 : decode cX0_durationOf 8 = .ok (.ireturn, 1) := by decide +kernel
set_option maxRecDepth 20000 in
theorem ggX0_setDuration_X4_setCell : GoodIn wsX0_setDuration wsX4_setCell := goodIn_r _ [4] (by decide +kernel) (by decide +kernel)
set_option maxRecDepth 20000 in
theorem gX0_setDuration_X4_setCell_n44 : GoodIn wsX0_setDuration (wsX4_setCell) := ggX0_setDuration_X4_setCell
theorem dX0_setDuration_0 : decode cX0_setDuration 0 = .ok (.aload_n 0, 1) := by decide +kernel
theorem dX0_setDuration_1 : decode cX0_setDuration 1 = .ok (.getfield 18, 3) := by decide +kernel
theorem dX0_setDuration_4 : decode cX0_setDuration 4 = .ok (.iload_n 1, 1) := by decide +kernel
theorem dX0_setDuration_5 : decode cX0_setDuration 5 = .ok (.iload_n 2, 1) := by decide +kernel
theorem dX0_setDuration_6 : decode cX0_setDuration 6 = .ok (.invokestatic 44, 3) := by decide +kernel
theorem dX0_setDuration_9 : decode cX0_setDuration 9 = .ok (.return_, 1) := by decide +kernel
set_option maxRecDepth 20000 in
theorem ggX0_eventsIn_X4_cell : GoodIn wsX0_eventsIn wsX4_cell := goodIn_r _ [4] (by decide +kernel) (by decide +kernel)
set_option maxRecDepth 20000 in
theorem gX0_eventsIn_X4_cell_n52 : GoodIn wsX0_eventsIn (wsX4_cell) := ggX0_eventsIn_X4_cell
theorem dX0_eventsIn_0 : decode cX0_eventsIn 0 = .ok (.aload_n 0, 1) := by decide +kernel
theorem dX0_eventsIn_1 : decode cX0_eventsIn 1 = .ok (.getfield 21, 3) := by decide +kernel
theorem dX0_eventsIn_4 : decode cX0_eventsIn 4 = .ok (.iload_n 1, 1) := by decide +kernel
theorem dX0_eventsIn_5 : decode cX0_eventsIn 5 = .ok (.invokestatic 52, 3) := by decide +kernel
theorem dX0_eventsIn_8 : decode cX0_eventsIn 8 = .ok (.ireturn, 1) := by decide +kernel
set_option maxRecDepth 20000 in
theorem ggX0_eventCode_X4_cell : GoodIn wsX0_eventCode wsX4_cell := goodIn_r _ [4] (by decide +kernel) (by decide +kernel)
set_option maxRecDepth 20000 in
theorem gX0_eventCode_X4_cell_n52 : GoodIn wsX0_eventCode (wsX4_cell) := ggX0_eventCode_X4_cell
theorem dX0_eventCode_0 : decode cX0_eventCode 0 = .ok (.aload_n 0, 1) := by decide +kernel
theorem dX0_eventCode_1 : decode cX0_eventCode 1 = .ok (.getfield 24, 3) := by decide +kernel
theorem dX0_eventCode_4 : decode cX0_eventCode 4 = .ok (.iload_n 1, 1) := by decide +kernel
theorem dX0_eventCode_5 : decode cX0_eventCode 5 = .ok (.bipush 6, 2) := by decide +kernel
theorem dX0_eventCode_7 : decode cX0_eventCode 7 = .ok (.imul, 1) := by decide +kernel
theorem dX0_eventCode_8 : decode cX0_eventCode 8 = .ok (.iload_n 2, 1) := by decide +kernel
theorem dX0_eventCode_9 : decode cX0_eventCode 9 = .ok (.iadd, 1) := by decide +kernel
theorem dX0_eventCode_10 : decode cX0_eventCode 10 = .ok (.invokestatic 52, 3) := by decide +kernel
theorem dX0_eventCode_13 : decode cX0_eventCode 13 = .ok (.ireturn, 1) := by decide +kernel
set_option maxRecDepth 20000 in
theorem ggX0_placeOfScene_X4_cell : GoodIn wsX0_placeOfScene wsX4_cell := goodIn_r _ [4] (by decide +kernel) (by decide +kernel)
set_option maxRecDepth 20000 in
theorem gX0_placeOfScene_X4_cell_n52 : GoodIn wsX0_placeOfScene (wsX4_cell) := ggX0_placeOfScene_X4_cell
theorem dX0_placeOfScene_0 : decode cX0_placeOfScene 0 = .ok (.aload_n 0, 1) := by decide +kernel
theorem dX0_placeOfScene_1 : decode cX0_placeOfScene 1 = .ok (.getfield 30, 3) := by decide +kernel
theorem dX0_placeOfScene_4 : decode cX0_placeOfScene 4 = .ok (.iload_n 1, 1) := by decide +kernel
theorem dX0_placeOfScene_5 : decode cX0_placeOfScene 5 = .ok (.invokestatic 52, 3) := by decide +kernel
theorem dX0_placeOfScene_8 : decode cX0_placeOfScene 8 = .ok (.ireturn, 1) := by decide +kernel
set_option maxRecDepth 20000 in
theorem ggX0_slotAt_X4_cell : GoodIn wsX0_slotAt wsX4_cell := goodIn_r _ [5] (by decide +kernel) (by decide +kernel)
set_option maxRecDepth 20000 in
theorem gX0_slotAt_X4_cell_n52 : GoodIn wsX0_slotAt (wsX4_cell) := ggX0_slotAt_X4_cell
theorem dX0_slotAt_0 : decode cX0_slotAt 0 = .ok (.iload_n 1, 1) := by decide +kernel
theorem dX0_slotAt_1 : decode cX0_slotAt 1 = .ok (.aload_n 0, 1) := by decide +kernel
theorem dX0_slotAt_2 : decode cX0_slotAt 2 = .ok (.getfield 33, 3) := by decide +kernel
theorem dX0_slotAt_5 : decode cX0_slotAt 5 = .ok (.if_icmp .ge 14, 3) := by decide +kernel
theorem dX0_slotAt_8 : decode cX0_slotAt 8 = .ok (.aload_n 0, 1) := by decide +kernel
theorem dX0_slotAt_9 : decode cX0_slotAt 9 = .ok (.getfield 27, 3) := by decide +kernel
theorem dX0_slotAt_12 : decode cX0_slotAt 12 = .ok (.iload_n 1, 1) := by decide +kernel
theorem dX0_slotAt_13 : decode cX0_slotAt 13 = .ok (.invokestatic 52, 3) := by decide +kernel
theorem dX0_slotAt_16 : decode cX0_slotAt 16 = .ok (.goto 4, 3) := by decide +kernel
theorem dX0_slotAt_19 : decode cX0_slotAt 19 = .ok (.iconst (-1), 1) := by decide +kernel
theorem dX0_slotAt_20 : decode cX0_slotAt 20 = .ok (.ireturn, 1) := by decide +kernel
set_option maxRecDepth 20000 in
theorem ggX0_rankOf_X4_cell : GoodIn wsX0_rankOf wsX4_cell := goodIn_r _ [5] (by decide +kernel) (by decide +kernel)
set_option maxRecDepth 20000 in
theorem gX0_rankOf_X4_cell_n52 : GoodIn wsX0_rankOf (wsX4_cell) := ggX0_rankOf_X4_cell
theorem dX0_rankOf_0 : decode cX0_rankOf 0 = .ok (.iconst 0, 1) := by decide +kernel
theorem dX0_rankOf_1 : decode cX0_rankOf 1 = .ok (.istore_n 2, 1) := by decide +kernel
theorem dX0_rankOf_2 : decode cX0_rankOf 2 = .ok (.iload_n 2, 1) := by decide +kernel
theorem dX0_rankOf_3 : decode cX0_rankOf 3 = .ok (.aload_n 0, 1) := by decide +kernel
theorem dX0_rankOf_4 : decode cX0_rankOf 4 = .ok (.getfield 33, 3) := by decide +kernel
theorem dX0_rankOf_7 : decode cX0_rankOf 7 = .ok (.if_icmp .ge 23, 3) := by decide +kernel
theorem dX0_rankOf_10 : decode cX0_rankOf 10 = .ok (.aload_n 0, 1) := by decide +kernel
theorem dX0_rankOf_11 : decode cX0_rankOf 11 = .ok (.getfield 27, 3) := by decide +kernel
theorem dX0_rankOf_14 : decode cX0_rankOf 14 = .ok (.iload_n 2, 1) := by decide +kernel
theorem dX0_rankOf_15 : decode cX0_rankOf 15 = .ok (.invokestatic 52, 3) := by decide +kernel
theorem dX0_rankOf_18 : decode cX0_rankOf 18 = .ok (.iload_n 1, 1) := by decide +kernel
theorem dX0_rankOf_19 : decode cX0_rankOf 19 = .ok (.if_icmp .ne 5, 3) := by decide +kernel
theorem dX0_rankOf_22 : decode cX0_rankOf 22 = .ok (.iload_n 2, 1) := by decide +kernel
theorem dX0_rankOf_23 : decode cX0_rankOf 23 = .ok (.ireturn, 1) := by decide +kernel
theorem dX0_rankOf_24 : decode cX0_rankOf 24 = .ok (.iinc 2 1, 3) := by decide +kernel
theorem dX0_rankOf_27 : decode cX0_rankOf 27 = .ok (.goto (-25), 3) := by decide +kernel
theorem dX0_rankOf_30 : decode cX0_rankOf 30 = .ok (.iconst (-1), 1) := by decide +kernel
theorem dX0_rankOf_31 : decode cX0_rankOf 31 = .ok (.ireturn, 1) := by decide +kernel
set_option maxRecDepth 20000 in
theorem ggX0_placeOf_X0_rankOf : GoodIn wsX0_placeOf wsX0_rankOf := goodIn_r _ [5, 6, 7, 8, 9, 10, 21, 22, 23, 24, 25, 26, 27, 28, 29] (by decide +kernel) (by decide +kernel)
set_option maxRecDepth 20000 in
theorem gX0_placeOf_X0_rankOf : GoodIn wsX0_placeOf (wsV RX0 56 RX0 yX0_rankOf wsX0_rankOf) := goodIn_app (goodIn_of _ (by decide +kernel)) ggX0_placeOf_X0_rankOf
set_option maxRecDepth 20000 in
theorem ggX0_placeOf_X0_sceneOf : GoodIn wsX0_placeOf wsX0_sceneOf := goodIn_r _ [14, 15, 8, 9, 10, 21, 22, 23, 24, 25, 26, 27, 28, 29] (by decide +kernel) (by decide +kernel)
set_option maxRecDepth 20000 in
theorem gX0_placeOf_X0_sceneOf : GoodIn wsX0_placeOf (wsV RX0 60 RX0 yX0_sceneOf wsX0_sceneOf) := goodIn_app (goodIn_of _ (by decide +kernel)) ggX0_placeOf_X0_sceneOf
set_option maxRecDepth 20000 in
theorem ggX0_placeOf_X0_panelsAhead : GoodIn wsX0_placeOf wsX0_panelsAhead := goodIn_r _ [19, 20, 6, 15, 7, 8, 9, 10, 21, 22, 23, 24, 25, 26, 27, 28, 29] (by decide +kernel) (by decide +kernel)
set_option maxRecDepth 20000 in
theorem gX0_placeOf_X0_panelsAhead : GoodIn wsX0_placeOf (wsV RX0 63 RX0 yX0_panelsAhead wsX0_panelsAhead) := goodIn_app (goodIn_of _ (by decide +kernel)) ggX0_placeOf_X0_panelsAhead
theorem dX0_placeOf_0 : decode cX0_placeOf 0 = .ok (.aload_n 0, 1) := by decide +kernel
theorem dX0_placeOf_1 : decode cX0_placeOf 1 = .ok (.iload_n 1, 1) := by decide +kernel
theorem dX0_placeOf_2 : decode cX0_placeOf 2 = .ok (.invokevirtual 56, 3) := by decide +kernel
theorem dX0_placeOf_5 : decode cX0_placeOf 5 = .ok (.aload_n 0, 1) := by decide +kernel
theorem dX0_placeOf_6 : decode cX0_placeOf 6 = .ok (.aload_n 0, 1) := by decide +kernel
theorem dX0_placeOf_7 : decode cX0_placeOf 7 = .ok (.iload_n 1, 1) := by decide +kernel
theorem dX0_placeOf_8 : decode cX0_placeOf 8 = .ok (.invokevirtual 60, 3) := by decide +kernel
theorem dX0_placeOf_11 : decode cX0_placeOf 11 = .ok (.invokevirtual 63, 3) := by decide +kernel
theorem dX0_placeOf_14 : decode cX0_placeOf 14 = .ok (.isub, 1) := by decide +kernel
theorem dX0_placeOf_15 : decode cX0_placeOf 15 = .ok (.ireturn, 1) := by decide +kernel
set_option maxRecDepth 20000 in
theorem ggX0_panelsIn_X4_cell : GoodIn wsX0_panelsIn wsX4_cell := goodIn_r _ [6] (by decide +kernel) (by decide +kernel)
set_option maxRecDepth 20000 in
theorem gX0_panelsIn_X4_cell_n52 : GoodIn wsX0_panelsIn (wsX4_cell) := ggX0_panelsIn_X4_cell
theorem dX0_panelsIn_0 : decode cX0_panelsIn 0 = .ok (.iconst 0, 1) := by decide +kernel
theorem dX0_panelsIn_1 : decode cX0_panelsIn 1 = .ok (.istore_n 2, 1) := by decide +kernel
theorem dX0_panelsIn_2 : decode cX0_panelsIn 2 = .ok (.iconst 0, 1) := by decide +kernel
theorem dX0_panelsIn_3 : decode cX0_panelsIn 3 = .ok (.istore_n 3, 1) := by decide +kernel
theorem dX0_panelsIn_4 : decode cX0_panelsIn 4 = .ok (.iload_n 3, 1) := by decide +kernel
theorem dX0_panelsIn_5 : decode cX0_panelsIn 5 = .ok (.aload_n 0, 1) := by decide +kernel
theorem dX0_panelsIn_6 : decode cX0_panelsIn 6 = .ok (.getfield 33, 3) := by decide +kernel
theorem dX0_panelsIn_9 : decode cX0_panelsIn 9 = .ok (.if_icmp .ge 31, 3) := by decide +kernel
theorem dX0_panelsIn_12 : decode cX0_panelsIn 12 = .ok (.aload_n 0, 1) := by decide +kernel
theorem dX0_panelsIn_13 : decode cX0_panelsIn 13 = .ok (.getfield 15, 3) := by decide +kernel
theorem dX0_panelsIn_16 : decode cX0_panelsIn 16 = .ok (.aload_n 0, 1) := by decide +kernel
theorem dX0_panelsIn_17 : decode cX0_panelsIn 17 = .ok (.getfield 27, 3) := by decide +kernel
theorem dX0_panelsIn_20 : decode cX0_panelsIn 20 = .ok (.iload_n 3, 1) := by decide +kernel
theorem dX0_panelsIn_21 : decode cX0_panelsIn 21 = .ok (.invokestatic 52, 3) := by decide +kernel
theorem dX0_panelsIn_24 : decode cX0_panelsIn 24 = .ok (.invokestatic 52, 3) := by decide +kernel
theorem dX0_panelsIn_27 : decode cX0_panelsIn 27 = .ok (.iload_n 1, 1) := by decide +kernel
theorem dX0_panelsIn_28 : decode cX0_panelsIn 28 = .ok (.if_icmp .ne 6, 3) := by decide +kernel
theorem dX0_panelsIn_31 : decode cX0_panelsIn 31 = .ok (.iinc 2 1, 3) := by decide +kernel
theorem dX0_panelsIn_34 : decode cX0_panelsIn 34 = .ok (.iinc 3 1, 3) := by decide +kernel
theorem dX0_panelsIn_37 : decode cX0_panelsIn 37 = .ok (.goto (-33), 3) := by decide +kernel
theorem dX0_panelsIn_40 : decode cX0_panelsIn 40 = .ok (.iload_n 2, 1) := by decide +kernel
theorem dX0_panelsIn_41 : decode cX0_panelsIn 41 = .ok (.ireturn, 1) := by decide +kernel
set_option maxRecDepth 20000 in
theorem ggX0_panelsAhead_X4_cell : GoodIn wsX0_panelsAhead wsX4_cell := goodIn_r _ [7] (by decide +kernel) (by decide +kernel)
set_option maxRecDepth 20000 in
theorem gX0_panelsAhead_X4_cell_n52 : GoodIn wsX0_panelsAhead (wsX4_cell) := ggX0_panelsAhead_X4_cell
theorem dX0_panelsAhead_0 : decode cX0_panelsAhead 0 = .ok (.aload_n 0, 1) := by decide +kernel
theorem dX0_panelsAhead_1 : decode cX0_panelsAhead 1 = .ok (.getfield 30, 3) := by decide +kernel
theorem dX0_panelsAhead_4 : decode cX0_panelsAhead 4 = .ok (.iload_n 1, 1) := by decide +kernel
theorem dX0_panelsAhead_5 : decode cX0_panelsAhead 5 = .ok (.invokestatic 52, 3) := by decide +kernel
theorem dX0_panelsAhead_8 : decode cX0_panelsAhead 8 = .ok (.istore_n 2, 1) := by decide +kernel
theorem dX0_panelsAhead_9 : decode cX0_panelsAhead 9 = .ok (.iconst 0, 1) := by decide +kernel
theorem dX0_panelsAhead_10 : decode cX0_panelsAhead 10 = .ok (.istore_n 3, 1) := by decide +kernel
theorem dX0_panelsAhead_11 : decode cX0_panelsAhead 11 = .ok (.iconst 0, 1) := by decide +kernel
theorem dX0_panelsAhead_12 : decode cX0_panelsAhead 12 = .ok (.istore 4, 2) := by decide +kernel
theorem dX0_panelsAhead_14 : decode cX0_panelsAhead 14 = .ok (.iload 4, 2) := by decide +kernel
theorem dX0_panelsAhead_16 : decode cX0_panelsAhead 16 = .ok (.aload_n 0, 1) := by decide +kernel
theorem dX0_panelsAhead_17 : decode cX0_panelsAhead 17 = .ok (.getfield 33, 3) := by decide +kernel
theorem dX0_panelsAhead_20 : decode cX0_panelsAhead 20 = .ok (.if_icmp .ge 39, 3) := by decide +kernel
theorem dX0_panelsAhead_23 : decode cX0_panelsAhead 23 = .ok (.aload_n 0, 1) := by decide +kernel
theorem dX0_panelsAhead_24 : decode cX0_panelsAhead 24 = .ok (.getfield 30, 3) := by decide +kernel
theorem dX0_panelsAhead_27 : decode cX0_panelsAhead 27 = .ok (.aload_n 0, 1) := by decide +kernel
theorem dX0_panelsAhead_28 : decode cX0_panelsAhead 28 = .ok (.getfield 15, 3) := by decide +kernel
theorem dX0_panelsAhead_31 : decode cX0_panelsAhead 31 = .ok (.aload_n 0, 1) := by decide +kernel
theorem dX0_panelsAhead_32 : decode cX0_panelsAhead 32 = .ok (.getfield 27, 3) := by decide +kernel
theorem dX0_panelsAhead_35 : decode cX0_panelsAhead 35 = .ok (.iload 4, 2) := by decide +kernel
theorem dX0_panelsAhead_37 : decode cX0_panelsAhead 37 = .ok (.invokestatic 52, 3) := by decide +kernel
theorem dX0_panelsAhead_40 : decode cX0_panelsAhead 40 = .ok (.invokestatic 52, 3) := by decide +kernel
theorem dX0_panelsAhead_43 : decode cX0_panelsAhead 43 = .ok (.invokestatic 52, 3) := by decide +kernel
theorem dX0_panelsAhead_46 : decode cX0_panelsAhead 46 = .ok (.iload_n 2, 1) := by decide +kernel
theorem dX0_panelsAhead_47 : decode cX0_panelsAhead 47 = .ok (.if_icmp .ge 6, 3) := by decide +kernel
theorem dX0_panelsAhead_50 : decode cX0_panelsAhead 50 = .ok (.iinc 3 1, 3) := by decide +kernel
theorem dX0_panelsAhead_53 : decode cX0_panelsAhead 53 = .ok (.iinc 4 1, 3) := by decide +kernel
theorem dX0_panelsAhead_56 : decode cX0_panelsAhead 56 = .ok (.goto (-42), 3) := by decide +kernel
theorem dX0_panelsAhead_59 : decode cX0_panelsAhead 59 = .ok (.iload_n 3, 1) := by decide +kernel
theorem dX0_panelsAhead_60 : decode cX0_panelsAhead 60 = .ok (.ireturn, 1) := by decide +kernel
set_option maxRecDepth 20000 in
theorem ggX0_ticksAhead_X4_cell : GoodIn wsX0_ticksAhead wsX4_cell := goodIn_r _ [5] (by decide +kernel) (by decide +kernel)
set_option maxRecDepth 20000 in
theorem gX0_ticksAhead_X4_cell_n52 : GoodIn wsX0_ticksAhead (wsX4_cell) := ggX0_ticksAhead_X4_cell
set_option maxRecDepth 20000 in
theorem ggX0_ticksAhead_X0_durationOf : GoodIn wsX0_ticksAhead wsX0_durationOf := goodIn_r _ [10, 11, 3, 4, 5, 12, 13, 14, 15, 16, 17, 18, 19, 20] (by decide +kernel) (by decide +kernel)
set_option maxRecDepth 20000 in
theorem gX0_ticksAhead_X0_durationOf : GoodIn wsX0_ticksAhead (wsV RX0 66 RX0 yX0_durationOf wsX0_durationOf) := goodIn_app (goodIn_of _ (by decide +kernel)) ggX0_ticksAhead_X0_durationOf
theorem dX0_ticksAhead_0 : decode cX0_ticksAhead 0 = .ok (.iconst 0, 1) := by decide +kernel
theorem dX0_ticksAhead_1 : decode cX0_ticksAhead 1 = .ok (.istore_n 2, 1) := by decide +kernel
theorem dX0_ticksAhead_2 : decode cX0_ticksAhead 2 = .ok (.iconst 0, 1) := by decide +kernel
theorem dX0_ticksAhead_3 : decode cX0_ticksAhead 3 = .ok (.istore_n 3, 1) := by decide +kernel
theorem dX0_ticksAhead_4 : decode cX0_ticksAhead 4 = .ok (.iload_n 3, 1) := by decide +kernel
theorem dX0_ticksAhead_5 : decode cX0_ticksAhead 5 = .ok (.iload_n 1, 1) := by decide +kernel
theorem dX0_ticksAhead_6 : decode cX0_ticksAhead 6 = .ok (.if_icmp .ge 32, 3) := by decide +kernel
theorem dX0_ticksAhead_9 : decode cX0_ticksAhead 9 = .ok (.iload_n 3, 1) := by decide +kernel
theorem dX0_ticksAhead_10 : decode cX0_ticksAhead 10 = .ok (.aload_n 0, 1) := by decide +kernel
theorem dX0_ticksAhead_11 : decode cX0_ticksAhead 11 = .ok (.getfield 33, 3) := by decide +kernel
theorem dX0_ticksAhead_14 : decode cX0_ticksAhead 14 = .ok (.if_icmp .ge 24, 3) := by decide +kernel
theorem dX0_ticksAhead_17 : decode cX0_ticksAhead 17 = .ok (.iload_n 2, 1) := by decide +kernel
theorem dX0_ticksAhead_18 : decode cX0_ticksAhead 18 = .ok (.aload_n 0, 1) := by decide +kernel
theorem dX0_ticksAhead_19 : decode cX0_ticksAhead 19 = .ok (.aload_n 0, 1) := by decide +kernel
theorem dX0_ticksAhead_20 : decode cX0_ticksAhead 20 = .ok (.getfield 27, 3) := by decide +kernel
theorem dX0_ticksAhead_23 : decode cX0_ticksAhead 23 = .ok (.iload_n 3, 1) := by decide +kernel
theorem dX0_ticksAhead_24 : decode cX0_ticksAhead 24 = .ok (.invokestatic 52, 3) := by decide +kernel
theorem dX0_ticksAhead_27 : decode cX0_ticksAhead 27 = .ok (.invokevirtual 66, 3) := by decide +kernel
theorem dX0_ticksAhead_30 : decode cX0_ticksAhead 30 = .ok (.iadd, 1) := by decide +kernel
theorem dX0_ticksAhead_31 : decode cX0_ticksAhead 31 = .ok (.istore_n 2, 1) := by decide +kernel
theorem dX0_ticksAhead_32 : decode cX0_ticksAhead 32 = .ok (.iinc 3 1, 3) := by decide +kernel
theorem dX0_ticksAhead_35 : decode cX0_ticksAhead 35 = .ok (.goto (-31), 3) := by decide +kernel
theorem dX0_ticksAhead_38 : decode cX0_ticksAhead 38 = .ok (.iload_n 2, 1) := by decide +kernel
theorem dX0_ticksAhead_39 : decode cX0_ticksAhead 39 = .ok (.ireturn, 1) := by decide +kernel
set_option maxRecDepth 20000 in
theorem ggX0_eventsOfAll_X4_cell : GoodIn wsX0_eventsOfAll wsX4_cell := goodIn_r _ [5] (by decide +kernel) (by decide +kernel)
set_option maxRecDepth 20000 in
theorem gX0_eventsOfAll_X4_cell_n52 : GoodIn wsX0_eventsOfAll (wsX4_cell) := ggX0_eventsOfAll_X4_cell
set_option maxRecDepth 20000 in
theorem ggX0_eventsOfAll_X0_eventsIn : GoodIn wsX0_eventsOfAll wsX0_eventsIn := goodIn_r _ [10, 11, 3, 4, 5, 12, 13, 14, 15, 16, 17, 18, 19, 20] (by decide +kernel) (by decide +kernel)
set_option maxRecDepth 20000 in
theorem gX0_eventsOfAll_X0_eventsIn : GoodIn wsX0_eventsOfAll (wsV RX0 69 RX0 yX0_eventsIn wsX0_eventsIn) := goodIn_app (goodIn_of _ (by decide +kernel)) ggX0_eventsOfAll_X0_eventsIn
theorem dX0_eventsOfAll_0 : decode cX0_eventsOfAll 0 = .ok (.iconst 0, 1) := by decide +kernel
theorem dX0_eventsOfAll_1 : decode cX0_eventsOfAll 1 = .ok (.istore_n 1, 1) := by decide +kernel
theorem dX0_eventsOfAll_2 : decode cX0_eventsOfAll 2 = .ok (.iconst 0, 1) := by decide +kernel
theorem dX0_eventsOfAll_3 : decode cX0_eventsOfAll 3 = .ok (.istore_n 2, 1) := by decide +kernel
theorem dX0_eventsOfAll_4 : decode cX0_eventsOfAll 4 = .ok (.iload_n 2, 1) := by decide +kernel
theorem dX0_eventsOfAll_5 : decode cX0_eventsOfAll 5 = .ok (.aload_n 0, 1) := by decide +kernel
theorem dX0_eventsOfAll_6 : decode cX0_eventsOfAll 6 = .ok (.getfield 33, 3) := by decide +kernel
theorem dX0_eventsOfAll_9 : decode cX0_eventsOfAll 9 = .ok (.if_icmp .ge 24, 3) := by decide +kernel
theorem dX0_eventsOfAll_12 : decode cX0_eventsOfAll 12 = .ok (.iload_n 1, 1) := by decide +kernel
theorem dX0_eventsOfAll_13 : decode cX0_eventsOfAll 13 = .ok (.aload_n 0, 1) := by decide +kernel
theorem dX0_eventsOfAll_14 : decode cX0_eventsOfAll 14 = .ok (.aload_n 0, 1) := by decide +kernel
theorem dX0_eventsOfAll_15 : decode cX0_eventsOfAll 15 = .ok (.getfield 27, 3) := by decide +kernel
theorem dX0_eventsOfAll_18 : decode cX0_eventsOfAll 18 = .ok (.iload_n 2, 1) := by decide +kernel
theorem dX0_eventsOfAll_19 : decode cX0_eventsOfAll 19 = .ok (.invokestatic 52, 3) := by decide +kernel
theorem dX0_eventsOfAll_22 : decode cX0_eventsOfAll 22 = .ok (.invokevirtual 69, 3) := by decide +kernel
theorem dX0_eventsOfAll_25 : decode cX0_eventsOfAll 25 = .ok (.iadd, 1) := by decide +kernel
theorem dX0_eventsOfAll_26 : decode cX0_eventsOfAll 26 = .ok (.istore_n 1, 1) := by decide +kernel
theorem dX0_eventsOfAll_27 : decode cX0_eventsOfAll 27 = .ok (.iinc 2 1, 3) := by decide +kernel
theorem dX0_eventsOfAll_30 : decode cX0_eventsOfAll 30 = .ok (.goto (-26), 3) := by decide +kernel
theorem dX0_eventsOfAll_33 : decode cX0_eventsOfAll 33 = .ok (.iload_n 1, 1) := by decide +kernel
theorem dX0_eventsOfAll_34 : decode cX0_eventsOfAll 34 = .ok (.ireturn, 1) := by decide +kernel
set_option maxRecDepth 20000 in
theorem ggX0_placesFor_X0_panelsIn : GoodIn wsX0_placesFor wsX0_panelsIn := goodIn_r _ [5, 6, 7, 8, 9, 10, 11, 16, 17, 18, 19, 20, 21, 22, 23, 24] (by decide +kernel) (by decide +kernel)
set_option maxRecDepth 20000 in
theorem gX0_placesFor_X0_panelsIn : GoodIn wsX0_placesFor (wsV RX0 72 RX0 yX0_panelsIn wsX0_panelsIn) := goodIn_app (goodIn_of _ (by decide +kernel)) ggX0_placesFor_X0_panelsIn
set_option maxRecDepth 20000 in
theorem ggX0_placesFor_X0_sceneOf : GoodIn wsX0_placesFor wsX0_sceneOf := goodIn_r _ [15, 7, 9, 10, 11, 16, 17, 18, 19, 20, 21, 22, 23, 24] (by decide +kernel) (by decide +kernel)
set_option maxRecDepth 20000 in
theorem gX0_placesFor_X0_sceneOf : GoodIn wsX0_placesFor (wsV RX0 60 RX0 yX0_sceneOf wsX0_sceneOf) := goodIn_app (goodIn_of _ (by decide +kernel)) ggX0_placesFor_X0_sceneOf
theorem dX0_placesFor_0 : decode cX0_placesFor 0 = .ok (.aload_n 0, 1) := by decide +kernel
theorem dX0_placesFor_1 : decode cX0_placesFor 1 = .ok (.iload_n 2, 1) := by decide +kernel
theorem dX0_placesFor_2 : decode cX0_placesFor 2 = .ok (.invokevirtual 72, 3) := by decide +kernel
theorem dX0_placesFor_5 : decode cX0_placesFor 5 = .ok (.istore_n 3, 1) := by decide +kernel
theorem dX0_placesFor_6 : decode cX0_placesFor 6 = .ok (.aload_n 0, 1) := by decide +kernel
theorem dX0_placesFor_7 : decode cX0_placesFor 7 = .ok (.iload_n 1, 1) := by decide +kernel
theorem dX0_placesFor_8 : decode cX0_placesFor 8 = .ok (.invokevirtual 60, 3) := by decide +kernel
theorem dX0_placesFor_11 : decode cX0_placesFor 11 = .ok (.iload_n 2, 1) := by decide +kernel
theorem dX0_placesFor_12 : decode cX0_placesFor 12 = .ok (.if_icmp .ne 7, 3) := by decide +kernel
theorem dX0_placesFor_15 : decode cX0_placesFor 15 = .ok (.iload_n 3, 1) := by decide +kernel
theorem dX0_placesFor_16 : decode cX0_placesFor 16 = .ok (.goto 6, 3) := by decide +kernel
theorem dX0_placesFor_19 : decode cX0_placesFor 19 = .ok (.iload_n 3, 1) := by decide +kernel
theorem dX0_placesFor_20 : decode cX0_placesFor 20 = .ok (.iconst 1, 1) := by decide +kernel
theorem dX0_placesFor_21 : decode cX0_placesFor 21 = .ok (.iadd, 1) := by decide +kernel
theorem dX0_placesFor_22 : decode cX0_placesFor 22 = .ok (.ireturn, 1) := by decide +kernel
set_option maxRecDepth 20000 in
theorem ggX0_hasPlaceFor_X0_placesFor : GoodIn wsX0_hasPlaceFor wsX0_placesFor := goodIn_r _ [5, 6, 7, 8, 4, 9, 10, 11, 12, 13, 14, 15, 16, 17, 18, 19, 20, 21, 22, 23, 24, 25, 26, 27, 28] (by decide +kernel) (by decide +kernel)
set_option maxRecDepth 20000 in
theorem gX0_hasPlaceFor_X0_placesFor : GoodIn wsX0_hasPlaceFor (wsV RX0 75 RX0 yX0_placesFor wsX0_placesFor) := goodIn_app (goodIn_of _ (by decide +kernel)) ggX0_hasPlaceFor_X0_placesFor
theorem dX0_hasPlaceFor_0 : decode cX0_hasPlaceFor 0 = .ok (.iload_n 3, 1) := by decide +kernel
theorem dX0_hasPlaceFor_1 : decode cX0_hasPlaceFor 1 = .ok (.ifCond .lt 17, 3) := by decide +kernel
theorem dX0_hasPlaceFor_4 : decode cX0_hasPlaceFor 4 = .ok (.iload_n 3, 1) := by decide +kernel
theorem dX0_hasPlaceFor_5 : decode cX0_hasPlaceFor 5 = .ok (.aload_n 0, 1) := by decide +kernel
theorem dX0_hasPlaceFor_6 : decode cX0_hasPlaceFor 6 = .ok (.iload_n 1, 1) := by decide +kernel
theorem dX0_hasPlaceFor_7 : decode cX0_hasPlaceFor 7 = .ok (.iload_n 2, 1) := by decide +kernel
theorem dX0_hasPlaceFor_8 : decode cX0_hasPlaceFor 8 = .ok (.invokevirtual 75, 3) := by decide +kernel
theorem dX0_hasPlaceFor_11 : decode cX0_hasPlaceFor 11 = .ok (.if_icmp .ge 7, 3) := by decide +kernel
theorem dX0_hasPlaceFor_14 : decode cX0_hasPlaceFor 14 = .ok (.iconst 1, 1) := by decide +kernel
theorem dX0_hasPlaceFor_15 : decode cX0_hasPlaceFor 15 = .ok (.goto 4, 3) := by decide +kernel
theorem dX0_hasPlaceFor_18 : decode cX0_hasPlaceFor 18 = .ok (.iconst 0, 1) := by decide +kernel
theorem dX0_hasPlaceFor_19 : decode cX0_hasPlaceFor 19 = .ok (.ireturn, 1) := by decide +kernel
set_option maxRecDepth 20000 in
theorem ggX0_addPanel_X0_freeSlot : GoodIn wsX0_addPanel wsX0_freeSlot := goodIn_r _ [7, 2, 8, 9, 10, 36, 37, 38, 39, 40, 41, 42, 43, 44] (by decide +kernel) (by decide +kernel)
set_option maxRecDepth 20000 in
theorem gX0_addPanel_X0_freeSlot : GoodIn wsX0_addPanel (wsV RX0 79 RX0 yX0_freeSlot wsX0_freeSlot) := goodIn_app (goodIn_of _ (by decide +kernel)) ggX0_addPanel_X0_freeSlot
set_option maxRecDepth 20000 in
theorem ggX0_addPanel_X4_setCell : GoodIn wsX0_addPanel wsX4_setCell := goodIn_r _ [12] (by decide +kernel) (by decide +kernel)
set_option maxRecDepth 20000 in
theorem gX0_addPanel_X4_setCell_n44 : GoodIn wsX0_addPanel (wsX4_setCell) := ggX0_addPanel_X4_setCell
set_option maxRecDepth 20000 in
theorem ggX0_addPanel_X0_drawEvents : GoodIn wsX0_addPanel wsX0_drawEvents := goodIn_r _ [16, 17, 18, 19, 11, 9, 12, 8, 10, 36, 37, 38, 39, 40, 41, 42, 43, 44, 45, 46, 47, 48, 49, 50] (by decide +kernel) (by decide +kernel)
set_option maxRecDepth 20000 in
theorem gX0_addPanel_X0_drawEvents : GoodIn wsX0_addPanel (wsV RX0 83 RX0 yX0_drawEvents wsX0_drawEvents) := goodIn_app (goodIn_of _ (by decide +kernel)) ggX0_addPanel_X0_drawEvents
set_option maxRecDepth 20000 in
theorem ggX0_addPanel_X0_panelsIn : GoodIn wsX0_addPanel wsX0_panelsIn := goodIn_r _ [23, 24, 25, 26, 8, 9, 10, 36, 37, 38, 39, 40, 41, 42, 43, 44] (by decide +kernel) (by decide +kernel)
set_option maxRecDepth 20000 in
theorem gX0_addPanel_X0_panelsIn : GoodIn wsX0_addPanel (wsV RX0 72 RX0 yX0_panelsIn wsX0_panelsIn) := goodIn_app (goodIn_of _ (by decide +kernel)) ggX0_addPanel_X0_panelsIn
set_option maxRecDepth 20000 in
theorem ggX0_addPanel_X0_putIn : GoodIn wsX0_addPanel wsX0_putIn := goodIn_r _ [30, 25, 24, 26, 11, 9, 12, 31, 32, 33, 6, 34, 35, 8, 10, 36, 37, 38, 39, 40, 41, 42, 43, 44] (by decide +kernel) (by decide +kernel)
set_option maxRecDepth 20000 in
theorem gX0_addPanel_X0_putIn : GoodIn wsX0_addPanel (wsV RX0 92 RX0 yX0_putIn wsX0_putIn) := goodIn_app (goodIn_of _ (by decide +kernel)) ggX0_addPanel_X0_putIn
theorem dX0_addPanel_0 : decode cX0_addPanel 0 = .ok (.aload_n 0, 1) := by decide +kernel
theorem dX0_addPanel_1 : decode cX0_addPanel 1 = .ok (.invokevirtual 79, 3) := by decide +kernel
theorem dX0_addPanel_4 : decode cX0_addPanel 4 = .ok (.istore_n 2, 1) := by decide +kernel
theorem dX0_addPanel_5 : decode cX0_addPanel 5 = .ok (.aload_n 0, 1) := by decide +kernel
theorem dX0_addPanel_6 : decode cX0_addPanel 6 = .ok (.getfield 37, 3) := by decide +kernel
theorem dX0_addPanel_9 : decode cX0_addPanel 9 = .ok (.istore_n 3, 1) := by decide +kernel
theorem dX0_addPanel_10 : decode cX0_addPanel 10 = .ok (.aload_n 0, 1) := by decide +kernel
theorem dX0_addPanel_11 : decode cX0_addPanel 11 = .ok (.getfield 9, 3) := by decide +kernel
theorem dX0_addPanel_14 : decode cX0_addPanel 14 = .ok (.iload_n 2, 1) := by decide +kernel
theorem dX0_addPanel_15 : decode cX0_addPanel 15 = .ok (.iload_n 3, 1) := by decide +kernel
theorem dX0_addPanel_16 : decode cX0_addPanel 16 = .ok (.invokestatic 44, 3) := by decide +kernel
theorem dX0_addPanel_19 : decode cX0_addPanel 19 = .ok (.aload_n 0, 1) := by decide +kernel
theorem dX0_addPanel_20 : decode cX0_addPanel 20 = .ok (.dup, 1) := by decide +kernel
theorem dX0_addPanel_21 : decode cX0_addPanel 21 = .ok (.getfield 37, 3) := by decide +kernel
theorem dX0_addPanel_24 : decode cX0_addPanel 24 = .ok (.iconst 1, 1) := by decide +kernel
theorem dX0_addPanel_25 : decode cX0_addPanel 25 = .ok (.iadd, 1) := by decide +kernel
theorem dX0_addPanel_26 : decode cX0_addPanel 26 = .ok (.putfield 37, 3) := by decide +kernel
theorem dX0_addPanel_29 : decode cX0_addPanel 29 = .ok (.aload_n 0, 1) := by decide +kernel
theorem dX0_addPanel_30 : decode cX0_addPanel 30 = .ok (.iload_n 2, 1) := by decide +kernel
theorem dX0_addPanel_31 : decode cX0_addPanel 31 = .ok (.aload_n 1, 1) := by decide +kernel
theorem dX0_addPanel_32 : decode cX0_addPanel 32 = .ok (.invokevirtual 83, 3) := by decide +kernel
theorem dX0_addPanel_35 : decode cX0_addPanel 35 = .ok (.aload_n 0, 1) := by decide +kernel
theorem dX0_addPanel_36 : decode cX0_addPanel 36 = .ok (.iload_n 2, 1) := by decide +kernel
theorem dX0_addPanel_37 : decode cX0_addPanel 37 = .ok (.aload_n 1, 1) := by decide +kernel
theorem dX0_addPanel_38 : decode cX0_addPanel 38 = .ok (.getfield 87, 3) := by decide +kernel
theorem dX0_addPanel_41 : decode cX0_addPanel 41 = .ok (.aload_n 0, 1) := by decide +kernel
theorem dX0_addPanel_42 : decode cX0_addPanel 42 = .ok (.aload_n 1, 1) := by decide +kernel
theorem dX0_addPanel_43 : decode cX0_addPanel 43 = .ok (.getfield 87, 3) := by decide +kernel
theorem dX0_addPanel_46 : decode cX0_addPanel 46 = .ok (.invokevirtual 72, 3) := by decide +kernel
theorem dX0_addPanel_49 : decode cX0_addPanel 49 = .ok (.invokevirtual 92, 3) := by decide +kernel
theorem dX0_addPanel_52 : decode cX0_addPanel 52 = .ok (.iload_n 3, 1) := by decide +kernel
theorem dX0_addPanel_53 : decode cX0_addPanel 53 = .ok (.ireturn, 1) := by decide +kernel
set_option maxRecDepth 20000 in
theorem ggX0_drawByText_X0_drawEvents : GoodIn wsX0_drawByText wsX0_drawEvents := goodIn_r _ [5, 6, 7, 8, 9, 10, 11, 12, 13, 48, 49, 50, 51, 52, 53, 54, 55, 56, 42, 43, 44, 45, 46, 47] (by decide +kernel) (by decide +kernel)
set_option maxRecDepth 20000 in
theorem gX0_drawByText_X0_drawEvents : GoodIn wsX0_drawByText (wsV RX0 83 RX0 yX0_drawEvents wsX0_drawEvents) := goodIn_app (goodIn_of _ (by decide +kernel)) ggX0_drawByText_X0_drawEvents
set_option maxRecDepth 20000 in
theorem ggX0_drawByText_X0_sceneOf : GoodIn wsX0_drawByText wsX0_sceneOf := goodIn_r _ [17, 18, 12, 10, 13, 48, 49, 50, 51, 52, 53, 54, 55, 56] (by decide +kernel) (by decide +kernel)
set_option maxRecDepth 20000 in
theorem gX0_drawByText_X0_sceneOf : GoodIn wsX0_drawByText (wsV RX0 60 RX0 yX0_sceneOf wsX0_sceneOf) := goodIn_app (goodIn_of _ (by decide +kernel)) ggX0_drawByText_X0_sceneOf
set_option maxRecDepth 20000 in
theorem ggX0_drawByText_X0_takeOut : GoodIn wsX0_drawByText wsX0_takeOut := goodIn_r _ [22, 23, 24, 25, 26, 27, 4, 28, 12, 10, 13, 9, 11, 48, 49, 50, 51, 52, 53, 54, 55, 56] (by decide +kernel) (by decide +kernel)
set_option maxRecDepth 20000 in
theorem gX0_drawByText_X0_takeOut : GoodIn wsX0_drawByText (wsV RX0 96 RX0 yX0_takeOut wsX0_takeOut) := goodIn_app (goodIn_of _ (by decide +kernel)) ggX0_drawByText_X0_takeOut
set_option maxRecDepth 20000 in
theorem ggX0_drawByText_X0_panelsIn : GoodIn wsX0_drawByText wsX0_panelsIn := goodIn_r _ [32, 23, 18, 24, 12, 10, 13, 48, 49, 50, 51, 52, 53, 54, 55, 56] (by decide +kernel) (by decide +kernel)
set_option maxRecDepth 20000 in
theorem gX0_drawByText_X0_panelsIn : GoodIn wsX0_drawByText (wsV RX0 72 RX0 yX0_panelsIn wsX0_panelsIn) := goodIn_app (goodIn_of _ (by decide +kernel)) ggX0_drawByText_X0_panelsIn
set_option maxRecDepth 20000 in
theorem ggX0_drawByText_X0_putIn : GoodIn wsX0_drawByText wsX0_putIn := goodIn_r _ [36, 18, 23, 24, 9, 10, 11, 37, 38, 39, 4, 40, 41, 12, 13, 48, 49, 50, 51, 52, 53, 54, 55, 56] (by decide +kernel) (by decide +kernel)
set_option maxRecDepth 20000 in
theorem gX0_drawByText_X0_putIn : GoodIn wsX0_drawByText (wsV RX0 92 RX0 yX0_putIn wsX0_putIn) := goodIn_app (goodIn_of _ (by decide +kernel)) ggX0_drawByText_X0_putIn
theorem dX0_drawByText_0 : decode cX0_drawByText 0 = .ok (.aload_n 0, 1) := by decide +kernel
theorem dX0_drawByText_1 : decode cX0_drawByText 1 = .ok (.iload_n 1, 1) := by decide +kernel
theorem dX0_drawByText_2 : decode cX0_drawByText 2 = .ok (.aload_n 2, 1) := by decide +kernel
theorem dX0_drawByText_3 : decode cX0_drawByText 3 = .ok (.invokevirtual 83, 3) := by decide +kernel
theorem dX0_drawByText_6 : decode cX0_drawByText 6 = .ok (.aload_n 0, 1) := by decide +kernel
theorem dX0_drawByText_7 : decode cX0_drawByText 7 = .ok (.iload_n 1, 1) := by decide +kernel
theorem dX0_drawByText_8 : decode cX0_drawByText 8 = .ok (.invokevirtual 60, 3) := by decide +kernel
theorem dX0_drawByText_11 : decode cX0_drawByText 11 = .ok (.aload_n 2, 1) := by decide +kernel
theorem dX0_drawByText_12 : decode cX0_drawByText 12 = .ok (.getfield 87, 3) := by decide +kernel
theorem dX0_drawByText_15 : decode cX0_drawByText 15 = .ok (.if_icmp .eq 25, 3) := by decide +kernel
theorem dX0_drawByText_18 : decode cX0_drawByText 18 = .ok (.aload_n 0, 1) := by decide +kernel
theorem dX0_drawByText_19 : decode cX0_drawByText 19 = .ok (.iload_n 1, 1) := by decide +kernel
theorem dX0_drawByText_20 : decode cX0_drawByText 20 = .ok (.invokevirtual 96, 3) := by decide +kernel
theorem dX0_drawByText_23 : decode cX0_drawByText 23 = .ok (.aload_n 0, 1) := by decide +kernel
theorem dX0_drawByText_24 : decode cX0_drawByText 24 = .ok (.iload_n 1, 1) := by decide +kernel
theorem dX0_drawByText_25 : decode cX0_drawByText 25 = .ok (.aload_n 2, 1) := by decide +kernel
theorem dX0_drawByText_26 : decode cX0_drawByText 26 = .ok (.getfield 87, 3) := by decide +kernel
theorem dX0_drawByText_29 : decode cX0_drawByText 29 = .ok (.aload_n 0, 1) := by decide +kernel
theorem dX0_drawByText_30 : decode cX0_drawByText 30 = .ok (.aload_n 2, 1) := by decide +kernel
theorem dX0_drawByText_31 : decode cX0_drawByText 31 = .ok (.getfield 87, 3) := by decide +kernel
theorem dX0_drawByText_34 : decode cX0_drawByText 34 = .ok (.invokevirtual 72, 3) := by decide +kernel
theorem dX0_drawByText_37 : decode cX0_drawByText 37 = .ok (.invokevirtual 92, 3) := by decide +kernel
theorem dX0_drawByText_40 : decode cX0_drawByText 40 = .ok (.return_, 1) := by decide +kernel
set_option maxRecDepth 20000 in
theorem ggX0_drawEvents_X4_setCell : GoodIn wsX0_drawEvents wsX4_setCell := goodIn_r _ [6] (by decide +kernel) (by decide +kernel)
set_option maxRecDepth 20000 in
theorem gX0_drawEvents_X4_setCell_n44 : GoodIn wsX0_drawEvents (wsX4_setCell) := ggX0_drawEvents_X4_setCell
set_option maxRecDepth 20000 in
theorem ggX0_drawEvents_X4_cell : GoodIn wsX0_drawEvents wsX4_cell := goodIn_r _ [8] (by decide +kernel) (by decide +kernel)
set_option maxRecDepth 20000 in
theorem gX0_drawEvents_X4_cell_n52 : GoodIn wsX0_drawEvents (wsX4_cell) := ggX0_drawEvents_X4_cell
theorem dX0_drawEvents_0 : decode cX0_drawEvents 0 = .ok (.aload_n 0, 1) := by decide +kernel
theorem dX0_drawEvents_1 : decode cX0_drawEvents 1 = .ok (.getfield 18, 3) := by decide +kernel
theorem dX0_drawEvents_4 : decode cX0_drawEvents 4 = .ok (.iload_n 1, 1) := by decide +kernel
theorem dX0_drawEvents_5 : decode cX0_drawEvents 5 = .ok (.aload_n 2, 1) := by decide +kernel
theorem dX0_drawEvents_6 : decode cX0_drawEvents 6 = .ok (.getfield 100, 3) := by decide +kernel
theorem dX0_drawEvents_9 : decode cX0_drawEvents 9 = .ok (.invokestatic 44, 3) := by decide +kernel
theorem dX0_drawEvents_12 : decode cX0_drawEvents 12 = .ok (.aload_n 0, 1) := by decide +kernel
theorem dX0_drawEvents_13 : decode cX0_drawEvents 13 = .ok (.getfield 21, 3) := by decide +kernel
theorem dX0_drawEvents_16 : decode cX0_drawEvents 16 = .ok (.iload_n 1, 1) := by decide +kernel
theorem dX0_drawEvents_17 : decode cX0_drawEvents 17 = .ok (.aload_n 2, 1) := by decide +kernel
theorem dX0_drawEvents_18 : decode cX0_drawEvents 18 = .ok (.getfield 103, 3) := by decide +kernel
theorem dX0_drawEvents_21 : decode cX0_drawEvents 21 = .ok (.invokestatic 44, 3) := by decide +kernel
theorem dX0_drawEvents_24 : decode cX0_drawEvents 24 = .ok (.iconst 0, 1) := by decide +kernel
theorem dX0_drawEvents_25 : decode cX0_drawEvents 25 = .ok (.istore_n 3, 1) := by decide +kernel
theorem dX0_drawEvents_26 : decode cX0_drawEvents 26 = .ok (.iload_n 3, 1) := by decide +kernel
theorem dX0_drawEvents_27 : decode cX0_drawEvents 27 = .ok (.bipush 6, 2) := by decide +kernel
theorem dX0_drawEvents_29 : decode cX0_drawEvents 29 = .ok (.if_icmp .ge 30, 3) := by decide +kernel
theorem dX0_drawEvents_32 : decode cX0_drawEvents 32 = .ok (.aload_n 0, 1) := by decide +kernel
theorem dX0_drawEvents_33 : decode cX0_drawEvents 33 = .ok (.getfield 24, 3) := by decide +kernel
theorem dX0_drawEvents_36 : decode cX0_drawEvents 36 = .ok (.iload_n 1, 1) := by decide +kernel
theorem dX0_drawEvents_37 : decode cX0_drawEvents 37 = .ok (.bipush 6, 2) := by decide +kernel
theorem dX0_drawEvents_39 : decode cX0_drawEvents 39 = .ok (.imul, 1) := by decide +kernel
theorem dX0_drawEvents_40 : decode cX0_drawEvents 40 = .ok (.iload_n 3, 1) := by decide +kernel
theorem dX0_drawEvents_41 : decode cX0_drawEvents 41 = .ok (.iadd, 1) := by decide +kernel
theorem dX0_drawEvents_42 : decode cX0_drawEvents 42 = .ok (.aload_n 2, 1) := by decide +kernel
theorem dX0_drawEvents_43 : decode cX0_drawEvents 43 = .ok (.getfield 106, 3) := by decide +kernel
theorem dX0_drawEvents_46 : decode cX0_drawEvents 46 = .ok (.iload_n 3, 1) := by decide +kernel
theorem dX0_drawEvents_47 : decode cX0_drawEvents 47 = .ok (.invokestatic 52, 3) := by decide +kernel
theorem dX0_drawEvents_50 : decode cX0_drawEvents 50 = .ok (.invokestatic 44, 3) := by decide +kernel
theorem dX0_drawEvents_53 : decode cX0_drawEvents 53 = .ok (.iinc 3 1, 3) := by decide +kernel
theorem dX0_drawEvents_56 : decode cX0_drawEvents 56 = .ok (.goto (-30), 3) := by decide +kernel
theorem dX0_drawEvents_59 : decode cX0_drawEvents 59 = .ok (.return_, 1) := by decide +kernel
set_option maxRecDepth 20000 in
theorem ggX0_removePanel_X0_takeOut : GoodIn wsX0_removePanel wsX0_takeOut := goodIn_r _ [6, 7, 8, 9, 10, 11, 5, 12, 13, 14, 15, 16, 17, 18, 19, 20, 21, 22, 23, 24, 25, 26] (by decide +kernel) (by decide +kernel)
set_option maxRecDepth 20000 in
theorem gX0_removePanel_X0_takeOut : GoodIn wsX0_removePanel (wsV RX0 96 RX0 yX0_takeOut wsX0_takeOut) := goodIn_app (goodIn_of _ (by decide +kernel)) ggX0_removePanel_X0_takeOut
set_option maxRecDepth 20000 in
theorem ggX0_removePanel_X4_setCell : GoodIn wsX0_removePanel wsX4_setCell := goodIn_r _ [17] (by decide +kernel) (by decide +kernel)
set_option maxRecDepth 20000 in
theorem gX0_removePanel_X4_setCell_n44 : GoodIn wsX0_removePanel (wsX4_setCell) := ggX0_removePanel_X4_setCell
theorem dX0_removePanel_0 : decode cX0_removePanel 0 = .ok (.aload_n 0, 1) := by decide +kernel
theorem dX0_removePanel_1 : decode cX0_removePanel 1 = .ok (.iload_n 1, 1) := by decide +kernel
theorem dX0_removePanel_2 : decode cX0_removePanel 2 = .ok (.invokevirtual 96, 3) := by decide +kernel
theorem dX0_removePanel_5 : decode cX0_removePanel 5 = .ok (.aload_n 0, 1) := by decide +kernel
theorem dX0_removePanel_6 : decode cX0_removePanel 6 = .ok (.getfield 9, 3) := by decide +kernel
theorem dX0_removePanel_9 : decode cX0_removePanel 9 = .ok (.iload_n 1, 1) := by decide +kernel
theorem dX0_removePanel_10 : decode cX0_removePanel 10 = .ok (.iconst (-1), 1) := by decide +kernel
theorem dX0_removePanel_11 : decode cX0_removePanel 11 = .ok (.invokestatic 44, 3) := by decide +kernel
theorem dX0_removePanel_14 : decode cX0_removePanel 14 = .ok (.return_, 1) := by decide +kernel
set_option maxRecDepth 20000 in
theorem ggX0_takeOut_X0_rankOf : GoodIn wsX0_takeOut wsX0_rankOf := goodIn_r _ [7, 1, 2, 8, 9, 10, 13, 14, 15, 16, 17, 18, 19, 20, 21] (by decide +kernel) (by decide +kernel)
set_option maxRecDepth 20000 in
theorem gX0_takeOut_X0_rankOf : GoodIn wsX0_takeOut (wsV RX0 56 RX0 yX0_rankOf wsX0_rankOf) := goodIn_app (goodIn_of _ (by decide +kernel)) ggX0_takeOut_X0_rankOf
set_option maxRecDepth 20000 in
theorem ggX0_takeOut_X4_cell : GoodIn wsX0_takeOut wsX4_cell := goodIn_r _ [10] (by decide +kernel) (by decide +kernel)
set_option maxRecDepth 20000 in
theorem gX0_takeOut_X4_cell_n52 : GoodIn wsX0_takeOut (wsX4_cell) := ggX0_takeOut_X4_cell
set_option maxRecDepth 20000 in
theorem ggX0_takeOut_X4_setCell : GoodIn wsX0_takeOut wsX4_setCell := goodIn_r _ [12] (by decide +kernel) (by decide +kernel)
set_option maxRecDepth 20000 in
theorem gX0_takeOut_X4_setCell_n44 : GoodIn wsX0_takeOut (wsX4_setCell) := ggX0_takeOut_X4_setCell
theorem dX0_takeOut_0 : decode cX0_takeOut 0 = .ok (.aload_n 0, 1) := by decide +kernel
theorem dX0_takeOut_1 : decode cX0_takeOut 1 = .ok (.iload_n 1, 1) := by decide +kernel
theorem dX0_takeOut_2 : decode cX0_takeOut 2 = .ok (.invokevirtual 56, 3) := by decide +kernel
theorem dX0_takeOut_5 : decode cX0_takeOut 5 = .ok (.istore_n 2, 1) := by decide +kernel
theorem dX0_takeOut_6 : decode cX0_takeOut 6 = .ok (.iload_n 2, 1) := by decide +kernel
theorem dX0_takeOut_7 : decode cX0_takeOut 7 = .ok (.iconst (-1), 1) := by decide +kernel
theorem dX0_takeOut_8 : decode cX0_takeOut 8 = .ok (.if_icmp .ne 4, 3) := by decide +kernel
theorem dX0_takeOut_11 : decode cX0_takeOut 11 = .ok (.return_, 1) := by decide +kernel
theorem dX0_takeOut_12 : decode cX0_takeOut 12 = .ok (.iload_n 2, 1) := by decide +kernel
theorem dX0_takeOut_13 : decode cX0_takeOut 13 = .ok (.iconst 1, 1) := by decide +kernel
theorem dX0_takeOut_14 : decode cX0_takeOut 14 = .ok (.iadd, 1) := by decide +kernel
theorem dX0_takeOut_15 : decode cX0_takeOut 15 = .ok (.istore_n 3, 1) := by decide +kernel
theorem dX0_takeOut_16 : decode cX0_takeOut 16 = .ok (.iload_n 3, 1) := by decide +kernel
theorem dX0_takeOut_17 : decode cX0_takeOut 17 = .ok (.aload_n 0, 1) := by decide +kernel
theorem dX0_takeOut_18 : decode cX0_takeOut 18 = .ok (.getfield 33, 3) := by decide +kernel
theorem dX0_takeOut_21 : decode cX0_takeOut 21 = .ok (.if_icmp .ge 27, 3) := by decide +kernel
theorem dX0_takeOut_24 : decode cX0_takeOut 24 = .ok (.aload_n 0, 1) := by decide +kernel
theorem dX0_takeOut_25 : decode cX0_takeOut 25 = .ok (.getfield 27, 3) := by decide +kernel
theorem dX0_takeOut_28 : decode cX0_takeOut 28 = .ok (.iload_n 3, 1) := by decide +kernel
theorem dX0_takeOut_29 : decode cX0_takeOut 29 = .ok (.iconst 1, 1) := by decide +kernel
theorem dX0_takeOut_30 : decode cX0_takeOut 30 = .ok (.isub, 1) := by decide +kernel
theorem dX0_takeOut_31 : decode cX0_takeOut 31 = .ok (.aload_n 0, 1) := by decide +kernel
theorem dX0_takeOut_32 : decode cX0_takeOut 32 = .ok (.getfield 27, 3) := by decide +kernel
theorem dX0_takeOut_35 : decode cX0_takeOut 35 = .ok (.iload_n 3, 1) := by decide +kernel
theorem dX0_takeOut_36 : decode cX0_takeOut 36 = .ok (.invokestatic 52, 3) := by decide +kernel
theorem dX0_takeOut_39 : decode cX0_takeOut 39 = .ok (.invokestatic 44, 3) := by decide +kernel
theorem dX0_takeOut_42 : decode cX0_takeOut 42 = .ok (.iinc 3 1, 3) := by decide +kernel
theorem dX0_takeOut_45 : decode cX0_takeOut 45 = .ok (.goto (-29), 3) := by decide +kernel
theorem dX0_takeOut_48 : decode cX0_takeOut 48 = .ok (.aload_n 0, 1) := by decide +kernel
theorem dX0_takeOut_49 : decode cX0_takeOut 49 = .ok (.dup, 1) := by decide +kernel
theorem dX0_takeOut_50 : decode cX0_takeOut 50 = .ok (.getfield 33, 3) := by decide +kernel
theorem dX0_takeOut_53 : decode cX0_takeOut 53 = .ok (.iconst 1, 1) := by decide +kernel
theorem dX0_takeOut_54 : decode cX0_takeOut 54 = .ok (.isub, 1) := by decide +kernel
theorem dX0_takeOut_55 : decode cX0_takeOut 55 = .ok (.putfield 33, 3) := by decide +kernel
theorem dX0_takeOut_58 : decode cX0_takeOut 58 = .ok (.return_, 1) := by decide +kernel
set_option maxRecDepth 20000 in
theorem ggX0_putIn_X4_setCell : GoodIn wsX0_putIn wsX4_setCell := goodIn_r _ [6] (by decide +kernel) (by decide +kernel)
set_option maxRecDepth 20000 in
theorem gX0_putIn_X4_setCell_n44 : GoodIn wsX0_putIn (wsX4_setCell) := ggX0_putIn_X4_setCell
set_option maxRecDepth 20000 in
theorem ggX0_putIn_X0_panelsAhead : GoodIn wsX0_putIn wsX0_panelsAhead := goodIn_r _ [11, 12, 2, 1, 3, 13, 5, 14, 15, 16, 17, 18, 19, 20, 21, 22, 23] (by decide +kernel) (by decide +kernel)
set_option maxRecDepth 20000 in
theorem gX0_putIn_X0_panelsAhead : GoodIn wsX0_putIn (wsV RX0 63 RX0 yX0_panelsAhead wsX0_panelsAhead) := goodIn_app (goodIn_of _ (by decide +kernel)) ggX0_putIn_X0_panelsAhead
set_option maxRecDepth 20000 in
theorem ggX0_putIn_X4_cell : GoodIn wsX0_putIn wsX4_cell := goodIn_r _ [14] (by decide +kernel) (by decide +kernel)
set_option maxRecDepth 20000 in
theorem gX0_putIn_X4_cell_n52 : GoodIn wsX0_putIn (wsX4_cell) := ggX0_putIn_X4_cell
theorem dX0_putIn_0 : decode cX0_putIn 0 = .ok (.aload_n 0, 1) := by decide +kernel
theorem dX0_putIn_1 : decode cX0_putIn 1 = .ok (.getfield 15, 3) := by decide +kernel
theorem dX0_putIn_4 : decode cX0_putIn 4 = .ok (.iload_n 1, 1) := by decide +kernel
theorem dX0_putIn_5 : decode cX0_putIn 5 = .ok (.iload_n 2, 1) := by decide +kernel
theorem dX0_putIn_6 : decode cX0_putIn 6 = .ok (.invokestatic 44, 3) := by decide +kernel
theorem dX0_putIn_9 : decode cX0_putIn 9 = .ok (.aload_n 0, 1) := by decide +kernel
theorem dX0_putIn_10 : decode cX0_putIn 10 = .ok (.iload_n 2, 1) := by decide +kernel
theorem dX0_putIn_11 : decode cX0_putIn 11 = .ok (.invokevirtual 63, 3) := by decide +kernel
theorem dX0_putIn_14 : decode cX0_putIn 14 = .ok (.iload_n 3, 1) := by decide +kernel
theorem dX0_putIn_15 : decode cX0_putIn 15 = .ok (.iadd, 1) := by decide +kernel
theorem dX0_putIn_16 : decode cX0_putIn 16 = .ok (.istore 4, 2) := by decide +kernel
theorem dX0_putIn_18 : decode cX0_putIn 18 = .ok (.aload_n 0, 1) := by decide +kernel
theorem dX0_putIn_19 : decode cX0_putIn 19 = .ok (.getfield 33, 3) := by decide +kernel
theorem dX0_putIn_22 : decode cX0_putIn 22 = .ok (.istore 5, 2) := by decide +kernel
theorem dX0_putIn_24 : decode cX0_putIn 24 = .ok (.iload 5, 2) := by decide +kernel
theorem dX0_putIn_26 : decode cX0_putIn 26 = .ok (.iload 4, 2) := by decide +kernel
theorem dX0_putIn_28 : decode cX0_putIn 28 = .ok (.if_icmp .le 29, 3) := by decide +kernel
theorem dX0_putIn_31 : decode cX0_putIn 31 = .ok (.aload_n 0, 1) := by decide +kernel
theorem dX0_putIn_32 : decode cX0_putIn 32 = .ok (.getfield 27, 3) := by decide +kernel
theorem dX0_putIn_35 : decode cX0_putIn 35 = .ok (.iload 5, 2) := by decide +kernel
theorem dX0_putIn_37 : decode cX0_putIn 37 = .ok (.aload_n 0, 1) := by decide +kernel
theorem dX0_putIn_38 : decode cX0_putIn 38 = .ok (.getfield 27, 3) := by decide +kernel
theorem dX0_putIn_41 : decode cX0_putIn 41 = .ok (.iload 5, 2) := by decide +kernel
theorem dX0_putIn_43 : decode cX0_putIn 43 = .ok (.iconst 1, 1) := by decide +kernel
theorem dX0_putIn_44 : decode cX0_putIn 44 = .ok (.isub, 1) := by decide +kernel
theorem dX0_putIn_45 : decode cX0_putIn 45 = .ok (.invokestatic 52, 3) := by decide +kernel
theorem dX0_putIn_48 : decode cX0_putIn 48 = .ok (.invokestatic 44, 3) := by decide +kernel
theorem dX0_putIn_51 : decode cX0_putIn 51 = .ok (.iinc 5 (-1), 3) := by decide +kernel
theorem dX0_putIn_54 : decode cX0_putIn 54 = .ok (.goto (-30), 3) := by decide +kernel
theorem dX0_putIn_57 : decode cX0_putIn 57 = .ok (.aload_n 0, 1) := by decide +kernel
theorem dX0_putIn_58 : decode cX0_putIn 58 = .ok (.getfield 27, 3) := by decide +kernel
theorem dX0_putIn_61 : decode cX0_putIn 61 = .ok (.iload 4, 2) := by decide +kernel
theorem dX0_putIn_63 : decode cX0_putIn 63 = .ok (.iload_n 1, 1) := by decide +kernel
theorem dX0_putIn_64 : decode cX0_putIn 64 = .ok (.invokestatic 44, 3) := by decide +kernel
theorem dX0_putIn_67 : decode cX0_putIn 67 = .ok (.aload_n 0, 1) := by decide +kernel
theorem dX0_putIn_68 : decode cX0_putIn 68 = .ok (.dup, 1) := by decide +kernel
theorem dX0_putIn_69 : decode cX0_putIn 69 = .ok (.getfield 33, 3) := by decide +kernel
theorem dX0_putIn_72 : decode cX0_putIn 72 = .ok (.iconst 1, 1) := by decide +kernel
theorem dX0_putIn_73 : decode cX0_putIn 73 = .ok (.iadd, 1) := by decide +kernel
theorem dX0_putIn_74 : decode cX0_putIn 74 = .ok (.putfield 33, 3) := by decide +kernel
theorem dX0_putIn_77 : decode cX0_putIn 77 = .ok (.return_, 1) := by decide +kernel
set_option maxRecDepth 20000 in
theorem ggX0_putSceneAt_X0_placeOfScene : GoodIn wsX0_putSceneAt wsX0_placeOfScene := goodIn_r _ [6, 1, 7, 8, 9, 27, 28, 29, 30, 31, 32, 33, 34, 35] (by decide +kernel) (by decide +kernel)
set_option maxRecDepth 20000 in
theorem gX0_putSceneAt_X0_placeOfScene : GoodIn wsX0_putSceneAt (wsV RX0 107 RX0 yX0_placeOfScene wsX0_placeOfScene) := goodIn_app (goodIn_of _ (by decide +kernel)) ggX0_putSceneAt_X0_placeOfScene
set_option maxRecDepth 20000 in
theorem ggX0_putSceneAt_X4_setCell : GoodIn wsX0_putSceneAt wsX4_setCell := goodIn_r _ [11] (by decide +kernel) (by decide +kernel)
set_option maxRecDepth 20000 in
theorem gX0_putSceneAt_X4_setCell_n44 : GoodIn wsX0_putSceneAt (wsX4_setCell) := ggX0_putSceneAt_X4_setCell
set_option maxRecDepth 20000 in
theorem ggX0_putSceneAt_X0_sortLine : GoodIn wsX0_putSceneAt wsX0_sortLine := goodIn_r _ [15, 16, 17, 18, 19, 5, 20, 1, 21, 22, 7, 8, 9, 23, 24, 25, 26, 10, 11, 27, 28, 29, 30, 31, 32, 33, 34, 35] (by decide +kernel) (by decide +kernel)
set_option maxRecDepth 20000 in
theorem gX0_putSceneAt_X0_sortLine : GoodIn wsX0_putSceneAt (wsV RX0 110 RX0 yX0_sortLine wsX0_sortLine) := goodIn_app (goodIn_of _ (by decide +kernel)) ggX0_putSceneAt_X0_sortLine
theorem dX0_putSceneAt_0 : decode cX0_putSceneAt 0 = .ok (.aload_n 0, 1) := by decide +kernel
theorem dX0_putSceneAt_1 : decode cX0_putSceneAt 1 = .ok (.iload_n 1, 1) := by decide +kernel
theorem dX0_putSceneAt_2 : decode cX0_putSceneAt 2 = .ok (.invokevirtual 107, 3) := by decide +kernel
theorem dX0_putSceneAt_5 : decode cX0_putSceneAt 5 = .ok (.istore_n 3, 1) := by decide +kernel
theorem dX0_putSceneAt_6 : decode cX0_putSceneAt 6 = .ok (.iconst 0, 1) := by decide +kernel
theorem dX0_putSceneAt_7 : decode cX0_putSceneAt 7 = .ok (.istore 4, 2) := by decide +kernel
theorem dX0_putSceneAt_9 : decode cX0_putSceneAt 9 = .ok (.iload 4, 2) := by decide +kernel
theorem dX0_putSceneAt_11 : decode cX0_putSceneAt 11 = .ok (.iconst 5, 1) := by decide +kernel
theorem dX0_putSceneAt_12 : decode cX0_putSceneAt 12 = .ok (.if_icmp .ge 70, 3) := by decide +kernel
theorem dX0_putSceneAt_15 : decode cX0_putSceneAt 15 = .ok (.aload_n 0, 1) := by decide +kernel
theorem dX0_putSceneAt_16 : decode cX0_putSceneAt 16 = .ok (.iload 4, 2) := by decide +kernel
theorem dX0_putSceneAt_18 : decode cX0_putSceneAt 18 = .ok (.invokevirtual 107, 3) := by decide +kernel
theorem dX0_putSceneAt_21 : decode cX0_putSceneAt 21 = .ok (.istore 5, 2) := by decide +kernel
theorem dX0_putSceneAt_23 : decode cX0_putSceneAt 23 = .ok (.iload 5, 2) := by decide +kernel
theorem dX0_putSceneAt_25 : decode cX0_putSceneAt 25 = .ok (.iload_n 3, 1) := by decide +kernel
theorem dX0_putSceneAt_26 : decode cX0_putSceneAt 26 = .ok (.if_icmp .le 25, 3) := by decide +kernel
theorem dX0_putSceneAt_29 : decode cX0_putSceneAt 29 = .ok (.iload 5, 2) := by decide +kernel
theorem dX0_putSceneAt_31 : decode cX0_putSceneAt 31 = .ok (.iload_n 2, 1) := by decide +kernel
theorem dX0_putSceneAt_32 : decode cX0_putSceneAt 32 = .ok (.if_icmp .gt 19, 3) := by decide +kernel
theorem dX0_putSceneAt_35 : decode cX0_putSceneAt 35 = .ok (.aload_n 0, 1) := by decide +kernel
theorem dX0_putSceneAt_36 : decode cX0_putSceneAt 36 = .ok (.getfield 30, 3) := by decide +kernel
theorem dX0_putSceneAt_39 : decode cX0_putSceneAt 39 = .ok (.iload 4, 2) := by decide +kernel
theorem dX0_putSceneAt_41 : decode cX0_putSceneAt 41 = .ok (.iload 5, 2) := by decide +kernel
theorem dX0_putSceneAt_43 : decode cX0_putSceneAt 43 = .ok (.iconst 1, 1) := by decide +kernel
theorem dX0_putSceneAt_44 : decode cX0_putSceneAt 44 = .ok (.isub, 1) := by decide +kernel
theorem dX0_putSceneAt_45 : decode cX0_putSceneAt 45 = .ok (.invokestatic 44, 3) := by decide +kernel
theorem dX0_putSceneAt_48 : decode cX0_putSceneAt 48 = .ok (.goto 28, 3) := by decide +kernel
theorem dX0_putSceneAt_51 : decode cX0_putSceneAt 51 = .ok (.iload 5, 2) := by decide +kernel
theorem dX0_putSceneAt_53 : decode cX0_putSceneAt 53 = .ok (.iload_n 3, 1) := by decide +kernel
theorem dX0_putSceneAt_54 : decode cX0_putSceneAt 54 = .ok (.if_icmp .ge 22, 3) := by decide +kernel
theorem dX0_putSceneAt_57 : decode cX0_putSceneAt 57 = .ok (.iload 5, 2) := by decide +kernel
theorem dX0_putSceneAt_59 : decode cX0_putSceneAt 59 = .ok (.iload_n 2, 1) := by decide +kernel
theorem dX0_putSceneAt_60 : decode cX0_putSceneAt 60 = .ok (.if_icmp .lt 16, 3) := by decide +kernel
theorem dX0_putSceneAt_63 : decode cX0_putSceneAt 63 = .ok (.aload_n 0, 1) := by decide +kernel
theorem dX0_putSceneAt_64 : decode cX0_putSceneAt 64 = .ok (.getfield 30, 3) := by decide +kernel
theorem dX0_putSceneAt_67 : decode cX0_putSceneAt 67 = .ok (.iload 4, 2) := by decide +kernel
theorem dX0_putSceneAt_69 : decode cX0_putSceneAt 69 = .ok (.iload 5, 2) := by decide +kernel
theorem dX0_putSceneAt_71 : decode cX0_putSceneAt 71 = .ok (.iconst 1, 1) := by decide +kernel
theorem dX0_putSceneAt_72 : decode cX0_putSceneAt 72 = .ok (.iadd, 1) := by decide +kernel
theorem dX0_putSceneAt_73 : decode cX0_putSceneAt 73 = .ok (.invokestatic 44, 3) := by decide +kernel
theorem dX0_putSceneAt_76 : decode cX0_putSceneAt 76 = .ok (.iinc 4 1, 3) := by decide +kernel
theorem dX0_putSceneAt_79 : decode cX0_putSceneAt 79 = .ok (.goto (-70), 3) := by decide +kernel
theorem dX0_putSceneAt_82 : decode cX0_putSceneAt 82 = .ok (.aload_n 0, 1) := by decide +kernel
theorem dX0_putSceneAt_83 : decode cX0_putSceneAt 83 = .ok (.getfield 30, 3) := by decide +kernel
theorem dX0_putSceneAt_86 : decode cX0_putSceneAt 86 = .ok (.iload_n 1, 1) := by decide +kernel
theorem dX0_putSceneAt_87 : decode cX0_putSceneAt 87 = .ok (.iload_n 2, 1) := by decide +kernel
theorem dX0_putSceneAt_88 : decode cX0_putSceneAt 88 = .ok (.invokestatic 44, 3) := by decide +kernel
theorem dX0_putSceneAt_91 : decode cX0_putSceneAt 91 = .ok (.aload_n 0, 1) := by decide +kernel
theorem dX0_putSceneAt_92 : decode cX0_putSceneAt 92 = .ok (.invokevirtual 110, 3) := by decide +kernel
theorem dX0_putSceneAt_95 : decode cX0_putSceneAt 95 = .ok (.return_, 1) := by decide +kernel
set_option maxRecDepth 20000 in
theorem ggX0_sortLine_X0_scenePlaceAt : GoodIn wsX0_sortLine wsX0_scenePlaceAt := goodIn_r _ [6, 7, 8, 9, 10, 11, 12, 19, 20, 21, 22, 23, 24, 25, 26, 27] (by decide +kernel) (by decide +kernel)
set_option maxRecDepth 20000 in
theorem gX0_sortLine_X0_scenePlaceAt : GoodIn wsX0_sortLine (wsV RX0 113 RX0 yX0_scenePlaceAt wsX0_scenePlaceAt) := goodIn_app (goodIn_of _ (by decide +kernel)) ggX0_sortLine_X0_scenePlaceAt
set_option maxRecDepth 20000 in
theorem ggX0_sortLine_X0_swapWithPrevious : GoodIn wsX0_sortLine wsX0_swapWithPrevious := goodIn_r _ [16, 9, 10, 11, 12, 17, 18, 19, 20, 21, 22, 23, 24, 25, 26, 27] (by decide +kernel) (by decide +kernel)
set_option maxRecDepth 20000 in
theorem gX0_sortLine_X0_swapWithPrevious : GoodIn wsX0_sortLine (wsV RX0 116 RX0 yX0_swapWithPrevious wsX0_swapWithPrevious) := goodIn_app (goodIn_of _ (by decide +kernel)) ggX0_sortLine_X0_swapWithPrevious
theorem dX0_sortLine_0 : decode cX0_sortLine 0 = .ok (.iconst 1, 1) := by decide +kernel
theorem dX0_sortLine_1 : decode cX0_sortLine 1 = .ok (.istore_n 1, 1) := by decide +kernel
theorem dX0_sortLine_2 : decode cX0_sortLine 2 = .ok (.iload_n 1, 1) := by decide +kernel
theorem dX0_sortLine_3 : decode cX0_sortLine 3 = .ok (.aload_n 0, 1) := by decide +kernel
theorem dX0_sortLine_4 : decode cX0_sortLine 4 = .ok (.getfield 33, 3) := by decide +kernel
theorem dX0_sortLine_7 : decode cX0_sortLine 7 = .ok (.if_icmp .ge 44, 3) := by decide +kernel
theorem dX0_sortLine_10 : decode cX0_sortLine 10 = .ok (.iload_n 1, 1) := by decide +kernel
theorem dX0_sortLine_11 : decode cX0_sortLine 11 = .ok (.istore_n 2, 1) := by decide +kernel
theorem dX0_sortLine_12 : decode cX0_sortLine 12 = .ok (.iload_n 2, 1) := by decide +kernel
theorem dX0_sortLine_13 : decode cX0_sortLine 13 = .ok (.ifCond .le 32, 3) := by decide +kernel
theorem dX0_sortLine_16 : decode cX0_sortLine 16 = .ok (.aload_n 0, 1) := by decide +kernel
theorem dX0_sortLine_17 : decode cX0_sortLine 17 = .ok (.iload_n 2, 1) := by decide +kernel
theorem dX0_sortLine_18 : decode cX0_sortLine 18 = .ok (.iconst 1, 1) := by decide +kernel
theorem dX0_sortLine_19 : decode cX0_sortLine 19 = .ok (.isub, 1) := by decide +kernel
theorem dX0_sortLine_20 : decode cX0_sortLine 20 = .ok (.invokevirtual 113, 3) := by decide +kernel
theorem dX0_sortLine_23 : decode cX0_sortLine 23 = .ok (.aload_n 0, 1) := by decide +kernel
theorem dX0_sortLine_24 : decode cX0_sortLine 24 = .ok (.iload_n 2, 1) := by decide +kernel
theorem dX0_sortLine_25 : decode cX0_sortLine 25 = .ok (.invokevirtual 113, 3) := by decide +kernel
theorem dX0_sortLine_28 : decode cX0_sortLine 28 = .ok (.if_icmp .gt 6, 3) := by decide +kernel
theorem dX0_sortLine_31 : decode cX0_sortLine 31 = .ok (.goto 14, 3) := by decide +kernel
theorem dX0_sortLine_34 : decode cX0_sortLine 34 = .ok (.aload_n 0, 1) := by decide +kernel
theorem dX0_sortLine_35 : decode cX0_sortLine 35 = .ok (.iload_n 2, 1) := by decide +kernel
theorem dX0_sortLine_36 : decode cX0_sortLine 36 = .ok (.invokevirtual 116, 3) := by decide +kernel
theorem dX0_sortLine_39 : decode cX0_sortLine 39 = .ok (.iinc 2 (-1), 3) := by decide +kernel
theorem dX0_sortLine_42 : decode cX0_sortLine 42 = .ok (.goto (-30), 3) := by decide +kernel
theorem dX0_sortLine_45 : decode cX0_sortLine 45 = .ok (.iinc 1 1, 3) := by decide +kernel
theorem dX0_sortLine_48 : decode cX0_sortLine 48 = .ok (.goto (-46), 3) := by decide +kernel
theorem dX0_sortLine_51 : decode cX0_sortLine 51 = .ok (.return_, 1) := by decide +kernel
set_option maxRecDepth 20000 in
theorem ggX0_scenePlaceAt_X4_cell : GoodIn wsX0_scenePlaceAt wsX4_cell := goodIn_r _ [6] (by decide +kernel) (by decide +kernel)
set_option maxRecDepth 20000 in
theorem gX0_scenePlaceAt_X4_cell_n52 : GoodIn wsX0_scenePlaceAt (wsX4_cell) := ggX0_scenePlaceAt_X4_cell
theorem dX0_scenePlaceAt_0 : decode cX0_scenePlaceAt 0 = .ok (.aload_n 0, 1) := by decide +kernel
theorem dX0_scenePlaceAt_1 : decode cX0_scenePlaceAt 1 = .ok (.getfield 30, 3) := by decide +kernel
theorem dX0_scenePlaceAt_4 : decode cX0_scenePlaceAt 4 = .ok (.aload_n 0, 1) := by decide +kernel
theorem dX0_scenePlaceAt_5 : decode cX0_scenePlaceAt 5 = .ok (.getfield 15, 3) := by decide +kernel
theorem dX0_scenePlaceAt_8 : decode cX0_scenePlaceAt 8 = .ok (.aload_n 0, 1) := by decide +kernel
theorem dX0_scenePlaceAt_9 : decode cX0_scenePlaceAt 9 = .ok (.getfield 27, 3) := by decide +kernel
theorem dX0_scenePlaceAt_12 : decode cX0_scenePlaceAt 12 = .ok (.iload_n 1, 1) := by decide +kernel
theorem dX0_scenePlaceAt_13 : decode cX0_scenePlaceAt 13 = .ok (.invokestatic 52, 3) := by decide +kernel
theorem dX0_scenePlaceAt_16 : decode cX0_scenePlaceAt 16 = .ok (.invokestatic 52, 3) := by decide +kernel
theorem dX0_scenePlaceAt_19 : decode cX0_scenePlaceAt 19 = .ok (.invokestatic 52, 3) := by decide +kernel
theorem dX0_scenePlaceAt_22 : decode cX0_scenePlaceAt 22 = .ok (.ireturn, 1) := by decide +kernel
set_option maxRecDepth 20000 in
theorem ggX0_swapWithPrevious_X4_cell : GoodIn wsX0_swapWithPrevious wsX4_cell := goodIn_r _ [4] (by decide +kernel) (by decide +kernel)
set_option maxRecDepth 20000 in
theorem gX0_swapWithPrevious_X4_cell_n52 : GoodIn wsX0_swapWithPrevious (wsX4_cell) := ggX0_swapWithPrevious_X4_cell
set_option maxRecDepth 20000 in
theorem ggX0_swapWithPrevious_X4_setCell : GoodIn wsX0_swapWithPrevious wsX4_setCell := goodIn_r _ [6] (by decide +kernel) (by decide +kernel)
set_option maxRecDepth 20000 in
theorem gX0_swapWithPrevious_X4_setCell_n44 : GoodIn wsX0_swapWithPrevious (wsX4_setCell) := ggX0_swapWithPrevious_X4_setCell
theorem dX0_swapWithPrevious_0 : decode cX0_swapWithPrevious 0 = .ok (.aload_n 0, 1) := by decide +kernel
theorem dX0_swapWithPrevious_1 : decode cX0_swapWithPrevious 1 = .ok (.getfield 27, 3) := by decide +kernel
theorem dX0_swapWithPrevious_4 : decode cX0_swapWithPrevious 4 = .ok (.iload_n 1, 1) := by decide +kernel
theorem dX0_swapWithPrevious_5 : decode cX0_swapWithPrevious 5 = .ok (.invokestatic 52, 3) := by decide +kernel
theorem dX0_swapWithPrevious_8 : decode cX0_swapWithPrevious 8 = .ok (.istore_n 2, 1) := by decide +kernel
theorem dX0_swapWithPrevious_9 : decode cX0_swapWithPrevious 9 = .ok (.aload_n 0, 1) := by decide +kernel
theorem dX0_swapWithPrevious_10 : decode cX0_swapWithPrevious 10 = .ok (.getfield 27, 3) := by decide +kernel
theorem dX0_swapWithPrevious_13 : decode cX0_swapWithPrevious 13 = .ok (.iload_n 1, 1) := by decide +kernel
theorem dX0_swapWithPrevious_14 : decode cX0_swapWithPrevious 14 = .ok (.aload_n 0, 1) := by decide +kernel
theorem dX0_swapWithPrevious_15 : decode cX0_swapWithPrevious 15 = .ok (.getfield 27, 3) := by decide +kernel
theorem dX0_swapWithPrevious_18 : decode cX0_swapWithPrevious 18 = .ok (.iload_n 1, 1) := by decide +kernel
theorem dX0_swapWithPrevious_19 : decode cX0_swapWithPrevious 19 = .ok (.iconst 1, 1) := by decide +kernel
theorem dX0_swapWithPrevious_20 : decode cX0_swapWithPrevious 20 = .ok (.isub, 1) := by decide +kernel
theorem dX0_swapWithPrevious_21 : decode cX0_swapWithPrevious 21 = .ok (.invokestatic 52, 3) := by decide +kernel
theorem dX0_swapWithPrevious_24 : decode cX0_swapWithPrevious 24 = .ok (.invokestatic 44, 3) := by decide +kernel
theorem dX0_swapWithPrevious_27 : decode cX0_swapWithPrevious 27 = .ok (.aload_n 0, 1) := by decide +kernel
theorem dX0_swapWithPrevious_28 : decode cX0_swapWithPrevious 28 = .ok (.getfield 27, 3) := by decide +kernel
theorem dX0_swapWithPrevious_31 : decode cX0_swapWithPrevious 31 = .ok (.iload_n 1, 1) := by decide +kernel
theorem dX0_swapWithPrevious_32 : decode cX0_swapWithPrevious 32 = .ok (.iconst 1, 1) := by decide +kernel
theorem dX0_swapWithPrevious_33 : decode cX0_swapWithPrevious 33 = .ok (.isub, 1) := by decide +kernel
theorem dX0_swapWithPrevious_34 : decode cX0_swapWithPrevious 34 = .ok (.iload_n 2, 1) := by decide +kernel
theorem dX0_swapWithPrevious_35 : decode cX0_swapWithPrevious 35 = .ok (.invokestatic 44, 3) := by decide +kernel
theorem dX0_swapWithPrevious_38 : decode cX0_swapWithPrevious 38 = .ok (.return_, 1) := by decide +kernel
theorem dX1_init_0 : decode cX1_init 0 = .ok (.aload_n 0, 1) := by decide +kernel
theorem dX1_init_1 : decode cX1_init 1 = .ok (.invokespecial 3, 3) := by decide +kernel
theorem dX1_init_4 : decode cX1_init 4 = .ok (.aload_n 0, 1) := by decide +kernel
theorem dX1_init_5 : decode cX1_init 5 = .ok (.bipush 10, 2) := by decide +kernel
theorem dX1_init_7 : decode cX1_init 7 = .ok (.newarray .int, 2) := by decide +kernel
theorem dX1_init_9 : decode cX1_init 9 = .ok (.putfield 9, 3) := by decide +kernel
theorem dX1_init_12 : decode cX1_init 12 = .ok (.aload_n 0, 1) := by decide +kernel
theorem dX1_init_13 : decode cX1_init 13 = .ok (.iconst 4, 1) := by decide +kernel
theorem dX1_init_14 : decode cX1_init 14 = .ok (.newarray .int, 2) := by decide +kernel
theorem dX1_init_16 : decode cX1_init 16 = .ok (.putfield 15, 3) := by decide +kernel
theorem dX1_init_19 : decode cX1_init 19 = .ok (.aload_n 0, 1) := by decide +kernel
theorem dX1_init_20 : decode cX1_init 20 = .ok (.iconst 4, 1) := by decide +kernel
theorem dX1_init_21 : decode cX1_init 21 = .ok (.newarray .int, 2) := by decide +kernel
theorem dX1_init_23 : decode cX1_init 23 = .ok (.putfield 18, 3) := by decide +kernel
theorem dX1_init_26 : decode cX1_init 26 = .ok (.aload_n 0, 1) := by decide +kernel
theorem dX1_init_27 : decode cX1_init 27 = .ok (.iconst 0, 1) := by decide +kernel
theorem dX1_init_28 : decode cX1_init 28 = .ok (.putfield 21, 3) := by decide +kernel
theorem dX1_init_31 : decode cX1_init 31 = .ok (.aload_n 0, 1) := by decide +kernel
theorem dX1_init_32 : decode cX1_init 32 = .ok (.sipush 800, 3) := by decide +kernel
theorem dX1_init_35 : decode cX1_init 35 = .ok (.newarray .int, 2) := by decide +kernel
theorem dX1_init_37 : decode cX1_init 37 = .ok (.putfield 25, 3) := by decide +kernel
theorem dX1_init_40 : decode cX1_init 40 = .ok (.aload_n 0, 1) := by decide +kernel
theorem dX1_init_41 : decode cX1_init 41 = .ok (.iconst 0, 1) := by decide +kernel
theorem dX1_init_42 : decode cX1_init 42 = .ok (.putfield 28, 3) := by decide +kernel
theorem dX1_init_45 : decode cX1_init 45 = .ok (.return_, 1) := by decide +kernel
set_option maxRecDepth 20000 in
theorem ggX1_goThrough_X4_fillRow : GoodIn wsX1_goThrough wsX4_fillRow := goodIn_r _ [6] (by decide +kernel) (by decide +kernel)
set_option maxRecDepth 20000 in
theorem gX1_goThrough_X4_fillRow_n31 : GoodIn wsX1_goThrough (wsX4_fillRow) := ggX1_goThrough_X4_fillRow
set_option maxRecDepth 20000 in
theorem ggX1_goThrough_X0_slotAt : GoodIn wsX1_goThrough wsX0_slotAt := goodIn_r _ [11, 12, 13, 14, 5, 15, 76, 77, 78, 79, 80, 81, 82, 83, 84] (by decide +kernel) (by decide +kernel)
set_option maxRecDepth 20000 in
theorem gX1_goThrough_X0_slotAt : GoodIn wsX1_goThrough (wsV RX1 35 RX0 yX0_slotAt wsX0_slotAt) := goodIn_app (goodIn_of _ (by decide +kernel)) ggX1_goThrough_X0_slotAt
set_option maxRecDepth 20000 in
theorem ggX1_goThrough_X0_sceneOf : GoodIn wsX1_goThrough wsX0_sceneOf := goodIn_r _ [19, 20, 14, 5, 15, 76, 77, 78, 79, 80, 81, 82, 83, 84] (by decide +kernel) (by decide +kernel)
set_option maxRecDepth 20000 in
theorem gX1_goThrough_X0_sceneOf : GoodIn wsX1_goThrough (wsV RX1 41 RX0 yX0_sceneOf wsX0_sceneOf) := goodIn_app (goodIn_of _ (by decide +kernel)) ggX1_goThrough_X0_sceneOf
set_option maxRecDepth 20000 in
theorem ggX1_goThrough_X1_passPanel : GoodIn wsX1_goThrough wsX1_passPanel := goodIn_r _ [25, 26, 27, 28, 29, 30, 10, 31, 32, 14, 5, 15, 33, 34, 35, 36, 37, 4, 6, 38, 39, 40, 41, 42, 43, 44, 45, 46, 47, 48, 49, 50, 51, 24, 52, 1, 53, 54, 55, 56, 57, 58, 2, 59, 60, 61, 62, 63, 64, 65, 3, 66, 67, 68, 69, 70, 71, 72, 73, 74, 75, 76, 77, 78, 79, 80, 81, 82, 83, 84] (by decide +kernel) (by decide +kernel)
set_option maxRecDepth 20000 in
theorem gX1_goThrough_X1_passPanel : GoodIn wsX1_goThrough (wsV RX1 44 RX1 yX1_passPanel wsX1_passPanel) := goodIn_app (goodIn_of _ (by decide +kernel)) ggX1_goThrough_X1_passPanel
theorem dX1_goThrough_0 : decode cX1_goThrough 0 = .ok (.aload_n 0, 1) := by decide +kernel
theorem dX1_goThrough_1 : decode cX1_goThrough 1 = .ok (.getfield 9, 3) := by decide +kernel
theorem dX1_goThrough_4 : decode cX1_goThrough 4 = .ok (.iconst (-1), 1) := by decide +kernel
theorem dX1_goThrough_5 : decode cX1_goThrough 5 = .ok (.invokestatic 31, 3) := by decide +kernel
theorem dX1_goThrough_8 : decode cX1_goThrough 8 = .ok (.aload_n 0, 1) := by decide +kernel
theorem dX1_goThrough_9 : decode cX1_goThrough 9 = .ok (.iconst 0, 1) := by decide +kernel
theorem dX1_goThrough_10 : decode cX1_goThrough 10 = .ok (.putfield 28, 3) := by decide +kernel
theorem dX1_goThrough_13 : decode cX1_goThrough 13 = .ok (.iconst (-1), 1) := by decide +kernel
theorem dX1_goThrough_14 : decode cX1_goThrough 14 = .ok (.istore_n 3, 1) := by decide +kernel
theorem dX1_goThrough_15 : decode cX1_goThrough 15 = .ok (.iconst 0, 1) := by decide +kernel
theorem dX1_goThrough_16 : decode cX1_goThrough 16 = .ok (.istore 4, 2) := by decide +kernel
theorem dX1_goThrough_18 : decode cX1_goThrough 18 = .ok (.iload 4, 2) := by decide +kernel
theorem dX1_goThrough_20 : decode cX1_goThrough 20 = .ok (.iload_n 2, 1) := by decide +kernel
theorem dX1_goThrough_21 : decode cX1_goThrough 21 = .ok (.if_icmp .ge 56, 3) := by decide +kernel
theorem dX1_goThrough_24 : decode cX1_goThrough 24 = .ok (.iload 4, 2) := by decide +kernel
theorem dX1_goThrough_26 : decode cX1_goThrough 26 = .ok (.bipush 10, 2) := by decide +kernel
theorem dX1_goThrough_28 : decode cX1_goThrough 28 = .ok (.if_icmp .ge 49, 3) := by decide +kernel
theorem dX1_goThrough_31 : decode cX1_goThrough 31 = .ok (.aload_n 1, 1) := by decide +kernel
theorem dX1_goThrough_32 : decode cX1_goThrough 32 = .ok (.iload 4, 2) := by decide +kernel
theorem dX1_goThrough_34 : decode cX1_goThrough 34 = .ok (.invokevirtual 35, 3) := by decide +kernel
theorem dX1_goThrough_37 : decode cX1_goThrough 37 = .ok (.istore 5, 2) := by decide +kernel
theorem dX1_goThrough_39 : decode cX1_goThrough 39 = .ok (.aload_n 1, 1) := by decide +kernel
theorem dX1_goThrough_40 : decode cX1_goThrough 40 = .ok (.iload 5, 2) := by decide +kernel
theorem dX1_goThrough_42 : decode cX1_goThrough 42 = .ok (.invokevirtual 41, 3) := by decide +kernel
theorem dX1_goThrough_45 : decode cX1_goThrough 45 = .ok (.istore 6, 2) := by decide +kernel
theorem dX1_goThrough_47 : decode cX1_goThrough 47 = .ok (.iload 6, 2) := by decide +kernel
theorem dX1_goThrough_49 : decode cX1_goThrough 49 = .ok (.iload_n 3, 1) := by decide +kernel
theorem dX1_goThrough_50 : decode cX1_goThrough 50 = .ok (.if_icmp .eq 14, 3) := by decide +kernel
theorem dX1_goThrough_53 : decode cX1_goThrough 53 = .ok (.aload_n 0, 1) := by decide +kernel
theorem dX1_goThrough_54 : decode cX1_goThrough 54 = .ok (.getfield 15, 3) := by decide +kernel
theorem dX1_goThrough_57 : decode cX1_goThrough 57 = .ok (.iconst (-1), 1) := by decide +kernel
theorem dX1_goThrough_58 : decode cX1_goThrough 58 = .ok (.invokestatic 31, 3) := by decide +kernel
theorem dX1_goThrough_61 : decode cX1_goThrough 61 = .ok (.iload 6, 2) := by decide +kernel
theorem dX1_goThrough_63 : decode cX1_goThrough 63 = .ok (.istore_n 3, 1) := by decide +kernel
theorem dX1_goThrough_64 : decode cX1_goThrough 64 = .ok (.aload_n 0, 1) := by decide +kernel
theorem dX1_goThrough_65 : decode cX1_goThrough 65 = .ok (.aload_n 1, 1) := by decide +kernel
theorem dX1_goThrough_66 : decode cX1_goThrough 66 = .ok (.iload 5, 2) := by decide +kernel
theorem dX1_goThrough_68 : decode cX1_goThrough 68 = .ok (.invokevirtual 44, 3) := by decide +kernel
theorem dX1_goThrough_71 : decode cX1_goThrough 71 = .ok (.iinc 4 1, 3) := by decide +kernel
theorem dX1_goThrough_74 : decode cX1_goThrough 74 = .ok (.goto (-56), 3) := by decide +kernel
theorem dX1_goThrough_77 : decode cX1_goThrough 77 = .ok (.return_, 1) := by decide +kernel
set_option maxRecDepth 20000 in
theorem ggX1_passPanel_X0_numberOf : GoodIn wsX1_passPanel wsX0_numberOf := goodIn_r _ [7, 8, 9, 10, 11, 61, 62, 63, 64, 65, 66, 67, 68, 69] (by decide +kernel) (by decide +kernel)
set_option maxRecDepth 20000 in
theorem gX1_passPanel_X0_numberOf : GoodIn wsX1_passPanel (wsV RX1 48 RX0 yX0_numberOf wsX0_numberOf) := goodIn_app (goodIn_of _ (by decide +kernel)) ggX1_passPanel_X0_numberOf
set_option maxRecDepth 20000 in
theorem ggX1_passPanel_X0_eventsIn : GoodIn wsX1_passPanel wsX0_eventsIn := goodIn_r _ [15, 16, 9, 10, 11, 61, 62, 63, 64, 65, 66, 67, 68, 69] (by decide +kernel) (by decide +kernel)
set_option maxRecDepth 20000 in
theorem gX1_passPanel_X0_eventsIn : GoodIn wsX1_passPanel (wsV RX1 51 RX0 yX0_eventsIn wsX0_eventsIn) := goodIn_app (goodIn_of _ (by decide +kernel)) ggX1_passPanel_X0_eventsIn
set_option maxRecDepth 20000 in
theorem ggX1_passPanel_X4_fillRow : GoodIn wsX1_passPanel wsX4_fillRow := goodIn_r _ [18] (by decide +kernel) (by decide +kernel)
set_option maxRecDepth 20000 in
theorem gX1_passPanel_X4_fillRow_n31 : GoodIn wsX1_passPanel (wsX4_fillRow) := ggX1_passPanel_X4_fillRow
set_option maxRecDepth 20000 in
theorem ggX1_passPanel_X0_eventCode : GoodIn wsX1_passPanel wsX0_eventCode := goodIn_r _ [22, 23, 9, 10, 11, 61, 62, 63, 64, 65, 66, 67, 68, 69] (by decide +kernel) (by decide +kernel)
set_option maxRecDepth 20000 in
theorem gX1_passPanel_X0_eventCode : GoodIn wsX1_passPanel (wsV RX1 54 RX0 yX0_eventCode wsX0_eventCode) := goodIn_app (goodIn_of _ (by decide +kernel)) ggX1_passPanel_X0_eventCode
set_option maxRecDepth 20000 in
theorem ggX1_passPanel_X4_characterIn : GoodIn wsX1_passPanel wsX4_characterIn := goodIn_r _ [25] (by decide +kernel) (by decide +kernel)
set_option maxRecDepth 20000 in
theorem gX1_passPanel_X4_characterIn_n58 : GoodIn wsX1_passPanel (wsX4_characterIn) := ggX1_passPanel_X4_characterIn
set_option maxRecDepth 20000 in
theorem ggX1_passPanel_X4_kindIn : GoodIn wsX1_passPanel wsX4_kindIn := goodIn_r _ [27] (by decide +kernel) (by decide +kernel)
set_option maxRecDepth 20000 in
theorem gX1_passPanel_X4_kindIn_n61 : GoodIn wsX1_passPanel (wsX4_kindIn) := ggX1_passPanel_X4_kindIn
set_option maxRecDepth 20000 in
theorem ggX1_passPanel_X4_takesProp : GoodIn wsX1_passPanel wsX4_takesProp := goodIn_r _ [29] (by decide +kernel) (by decide +kernel)
set_option maxRecDepth 20000 in
theorem gX1_passPanel_X4_takesProp_n64 : GoodIn wsX1_passPanel (wsX4_takesProp) := ggX1_passPanel_X4_takesProp
set_option maxRecDepth 20000 in
theorem ggX1_passPanel_X1_passProp : GoodIn wsX1_passPanel wsX1_passProp := goodIn_r _ [34, 35, 1, 24, 10, 25, 26, 27, 36, 37, 9, 11, 38, 39, 40, 33, 41, 42, 43, 44, 45, 55, 56, 57, 58, 59, 60] (by decide +kernel) (by decide +kernel)
set_option maxRecDepth 20000 in
theorem gX1_passPanel_X1_passProp : GoodIn wsX1_passPanel (wsV RX1 68 RX1 yX1_passProp wsX1_passProp) := goodIn_app (goodIn_of _ (by decide +kernel)) ggX1_passPanel_X1_passProp
set_option maxRecDepth 20000 in
theorem ggX1_passPanel_X1_passMove : GoodIn wsX1_passPanel wsX1_passMove := goodIn_r _ [49, 50, 24, 10, 25, 26, 27, 44, 45, 9, 11, 38, 39, 40, 33, 41, 42, 43, 55, 56, 57, 58, 59, 60] (by decide +kernel) (by decide +kernel)
set_option maxRecDepth 20000 in
theorem gX1_passPanel_X1_passMove : GoodIn wsX1_passPanel (wsV RX1 72 RX1 yX1_passMove wsX1_passMove) := goodIn_app (goodIn_of _ (by decide +kernel)) ggX1_passPanel_X1_passMove
set_option maxRecDepth 20000 in
theorem ggX1_passPanel_X1_findUndrawn : GoodIn wsX1_passPanel wsX1_findUndrawn := goodIn_r _ [54, 2, 1, 35, 9, 10, 11, 38, 39, 40, 33, 41, 42, 43, 55, 56, 57, 58, 59, 60] (by decide +kernel) (by decide +kernel)
set_option maxRecDepth 20000 in
theorem gX1_passPanel_X1_findUndrawn : GoodIn wsX1_passPanel (wsV RX1 75 RX1 yX1_findUndrawn wsX1_findUndrawn) := goodIn_app (goodIn_of _ (by decide +kernel)) ggX1_passPanel_X1_findUndrawn
theorem dX1_passPanel_0 : decode cX1_passPanel 0 = .ok (.aload_n 1, 1) := by decide +kernel
theorem dX1_passPanel_1 : decode cX1_passPanel 1 = .ok (.iload_n 2, 1) := by decide +kernel
theorem dX1_passPanel_2 : decode cX1_passPanel 2 = .ok (.invokevirtual 48, 3) := by decide +kernel
theorem dX1_passPanel_5 : decode cX1_passPanel 5 = .ok (.istore_n 3, 1) := by decide +kernel
theorem dX1_passPanel_6 : decode cX1_passPanel 6 = .ok (.aload_n 1, 1) := by decide +kernel
theorem dX1_passPanel_7 : decode cX1_passPanel 7 = .ok (.iload_n 2, 1) := by decide +kernel
theorem dX1_passPanel_8 : decode cX1_passPanel 8 = .ok (.invokevirtual 51, 3) := by decide +kernel
theorem dX1_passPanel_11 : decode cX1_passPanel 11 = .ok (.istore 4, 2) := by decide +kernel
theorem dX1_passPanel_13 : decode cX1_passPanel 13 = .ok (.aload_n 0, 1) := by decide +kernel
theorem dX1_passPanel_14 : decode cX1_passPanel 14 = .ok (.getfield 18, 3) := by decide +kernel
theorem dX1_passPanel_17 : decode cX1_passPanel 17 = .ok (.iconst 0, 1) := by decide +kernel
theorem dX1_passPanel_18 : decode cX1_passPanel 18 = .ok (.invokestatic 31, 3) := by decide +kernel
theorem dX1_passPanel_21 : decode cX1_passPanel 21 = .ok (.aload_n 0, 1) := by decide +kernel
theorem dX1_passPanel_22 : decode cX1_passPanel 22 = .ok (.iconst 0, 1) := by decide +kernel
theorem dX1_passPanel_23 : decode cX1_passPanel 23 = .ok (.putfield 21, 3) := by decide +kernel
theorem dX1_passPanel_26 : decode cX1_passPanel 26 = .ok (.iconst 0, 1) := by decide +kernel
theorem dX1_passPanel_27 : decode cX1_passPanel 27 = .ok (.istore 5, 2) := by decide +kernel
theorem dX1_passPanel_29 : decode cX1_passPanel 29 = .ok (.iload 5, 2) := by decide +kernel
theorem dX1_passPanel_31 : decode cX1_passPanel 31 = .ok (.iload 4, 2) := by decide +kernel
theorem dX1_passPanel_33 : decode cX1_passPanel 33 = .ok (.if_icmp .ge 66, 3) := by decide +kernel
theorem dX1_passPanel_36 : decode cX1_passPanel 36 = .ok (.aload_n 1, 1) := by decide +kernel
theorem dX1_passPanel_37 : decode cX1_passPanel 37 = .ok (.iload_n 2, 1) := by decide +kernel
theorem dX1_passPanel_38 : decode cX1_passPanel 38 = .ok (.iload 5, 2) := by decide +kernel
theorem dX1_passPanel_40 : decode cX1_passPanel 40 = .ok (.invokevirtual 54, 3) := by decide +kernel
theorem dX1_passPanel_43 : decode cX1_passPanel 43 = .ok (.istore 6, 2) := by decide +kernel
theorem dX1_passPanel_45 : decode cX1_passPanel 45 = .ok (.aload_n 0, 1) := by decide +kernel
theorem dX1_passPanel_46 : decode cX1_passPanel 46 = .ok (.dup, 1) := by decide +kernel
theorem dX1_passPanel_47 : decode cX1_passPanel 47 = .ok (.getfield 21, 3) := by decide +kernel
theorem dX1_passPanel_50 : decode cX1_passPanel 50 = .ok (.iconst 1, 1) := by decide +kernel
theorem dX1_passPanel_51 : decode cX1_passPanel 51 = .ok (.iload 6, 2) := by decide +kernel
theorem dX1_passPanel_53 : decode cX1_passPanel 53 = .ok (.invokestatic 58, 3) := by decide +kernel
theorem dX1_passPanel_56 : decode cX1_passPanel 56 = .ok (.ishl, 1) := by decide +kernel
theorem dX1_passPanel_57 : decode cX1_passPanel 57 = .ok (.ior, 1) := by decide +kernel
theorem dX1_passPanel_58 : decode cX1_passPanel 58 = .ok (.putfield 21, 3) := by decide +kernel
theorem dX1_passPanel_61 : decode cX1_passPanel 61 = .ok (.iload 6, 2) := by decide +kernel
theorem dX1_passPanel_63 : decode cX1_passPanel 63 = .ok (.invokestatic 61, 3) := by decide +kernel
theorem dX1_passPanel_66 : decode cX1_passPanel 66 = .ok (.invokestatic 64, 3) := by decide +kernel
theorem dX1_passPanel_69 : decode cX1_passPanel 69 = .ok (.ifCond .eq 15, 3) := by decide +kernel
theorem dX1_passPanel_72 : decode cX1_passPanel 72 = .ok (.aload_n 0, 1) := by decide +kernel
theorem dX1_passPanel_73 : decode cX1_passPanel 73 = .ok (.iload_n 3, 1) := by decide +kernel
theorem dX1_passPanel_74 : decode cX1_passPanel 74 = .ok (.iload 5, 2) := by decide +kernel
theorem dX1_passPanel_76 : decode cX1_passPanel 76 = .ok (.iload 6, 2) := by decide +kernel
theorem dX1_passPanel_78 : decode cX1_passPanel 78 = .ok (.invokevirtual 68, 3) := by decide +kernel
theorem dX1_passPanel_81 : decode cX1_passPanel 81 = .ok (.goto 12, 3) := by decide +kernel
theorem dX1_passPanel_84 : decode cX1_passPanel 84 = .ok (.aload_n 0, 1) := by decide +kernel
theorem dX1_passPanel_85 : decode cX1_passPanel 85 = .ok (.iload_n 3, 1) := by decide +kernel
theorem dX1_passPanel_86 : decode cX1_passPanel 86 = .ok (.iload 5, 2) := by decide +kernel
theorem dX1_passPanel_88 : decode cX1_passPanel 88 = .ok (.iload 6, 2) := by decide +kernel
theorem dX1_passPanel_90 : decode cX1_passPanel 90 = .ok (.invokevirtual 72, 3) := by decide +kernel
theorem dX1_passPanel_93 : decode cX1_passPanel 93 = .ok (.iinc 5 1, 3) := by decide +kernel
theorem dX1_passPanel_96 : decode cX1_passPanel 96 = .ok (.goto (-67), 3) := by decide +kernel
theorem dX1_passPanel_99 : decode cX1_passPanel 99 = .ok (.aload_n 0, 1) := by decide +kernel
theorem dX1_passPanel_100 : decode cX1_passPanel 100 = .ok (.iload_n 3, 1) := by decide +kernel
theorem dX1_passPanel_101 : decode cX1_passPanel 101 = .ok (.invokevirtual 75, 3) := by decide +kernel
theorem dX1_passPanel_104 : decode cX1_passPanel 104 = .ok (.return_, 1) := by decide +kernel
set_option maxRecDepth 20000 in
theorem ggX1_passProp_X4_characterIn : GoodIn wsX1_passProp wsX4_characterIn := goodIn_r _ [5] (by decide +kernel) (by decide +kernel)
set_option maxRecDepth 20000 in
theorem gX1_passProp_X4_characterIn_n58 : GoodIn wsX1_passProp (wsX4_characterIn) := ggX1_passProp_X4_characterIn
set_option maxRecDepth 20000 in
theorem ggX1_passProp_X4_kindIn : GoodIn wsX1_passProp wsX4_kindIn := goodIn_r _ [7] (by decide +kernel) (by decide +kernel)
set_option maxRecDepth 20000 in
theorem gX1_passProp_X4_kindIn_n61 : GoodIn wsX1_passProp (wsX4_kindIn) := ggX1_passProp_X4_kindIn
set_option maxRecDepth 20000 in
theorem ggX1_passProp_X4_propIn : GoodIn wsX1_passProp wsX4_propIn := goodIn_r _ [9] (by decide +kernel) (by decide +kernel)
set_option maxRecDepth 20000 in
theorem gX1_passProp_X4_propIn_n79 : GoodIn wsX1_passProp (wsX4_propIn) := ggX1_passProp_X4_propIn
set_option maxRecDepth 20000 in
theorem ggX1_passProp_X4_cell : GoodIn wsX1_passProp wsX4_cell := goodIn_r _ [11] (by decide +kernel) (by decide +kernel)
set_option maxRecDepth 20000 in
theorem gX1_passProp_X4_cell_n82 : GoodIn wsX1_passProp (wsX4_cell) := ggX1_passProp_X4_cell
set_option maxRecDepth 20000 in
theorem ggX1_passProp_X1_addBreak : GoodIn wsX1_passProp wsX1_addBreak := goodIn_r _ [16, 17, 18, 21, 22, 23, 24, 25, 26] (by decide +kernel) (by decide +kernel)
set_option maxRecDepth 20000 in
theorem gX1_passProp_X1_addBreak : GoodIn wsX1_passProp (wsV RX1 86 RX1 yX1_addBreak wsX1_addBreak) := goodIn_app (goodIn_of _ (by decide +kernel)) ggX1_passProp_X1_addBreak
set_option maxRecDepth 20000 in
theorem ggX1_passProp_X4_setCell : GoodIn wsX1_passProp wsX4_setCell := goodIn_r _ [20] (by decide +kernel) (by decide +kernel)
set_option maxRecDepth 20000 in
theorem gX1_passProp_X4_setCell_n90 : GoodIn wsX1_passProp (wsX4_setCell) := ggX1_passProp_X4_setCell
theorem dX1_passProp_0 : decode cX1_passProp 0 = .ok (.iload_n 3, 1) := by decide +kernel
theorem dX1_passProp_1 : decode cX1_passProp 1 = .ok (.invokestatic 58, 3) := by decide +kernel
theorem dX1_passProp_4 : decode cX1_passProp 4 = .ok (.istore 4, 2) := by decide +kernel
theorem dX1_passProp_6 : decode cX1_passProp 6 = .ok (.iload_n 3, 1) := by decide +kernel
theorem dX1_passProp_7 : decode cX1_passProp 7 = .ok (.invokestatic 61, 3) := by decide +kernel
theorem dX1_passProp_10 : decode cX1_passProp 10 = .ok (.istore 5, 2) := by decide +kernel
theorem dX1_passProp_12 : decode cX1_passProp 12 = .ok (.iload_n 3, 1) := by decide +kernel
theorem dX1_passProp_13 : decode cX1_passProp 13 = .ok (.invokestatic 79, 3) := by decide +kernel
theorem dX1_passProp_16 : decode cX1_passProp 16 = .ok (.istore 6, 2) := by decide +kernel
theorem dX1_passProp_18 : decode cX1_passProp 18 = .ok (.aload_n 0, 1) := by decide +kernel
theorem dX1_passProp_19 : decode cX1_passProp 19 = .ok (.getfield 9, 3) := by decide +kernel
theorem dX1_passProp_22 : decode cX1_passProp 22 = .ok (.iload 6, 2) := by decide +kernel
theorem dX1_passProp_24 : decode cX1_passProp 24 = .ok (.invokestatic 82, 3) := by decide +kernel
theorem dX1_passProp_27 : decode cX1_passProp 27 = .ok (.istore 7, 2) := by decide +kernel
theorem dX1_passProp_29 : decode cX1_passProp 29 = .ok (.iload 5, 2) := by decide +kernel
theorem dX1_passProp_31 : decode cX1_passProp 31 = .ok (.ifCond .ne 20, 3) := by decide +kernel
theorem dX1_passProp_34 : decode cX1_passProp 34 = .ok (.iload 7, 2) := by decide +kernel
theorem dX1_passProp_36 : decode cX1_passProp 36 = .ok (.iconst (-1), 1) := by decide +kernel
theorem dX1_passProp_37 : decode cX1_passProp 37 = .ok (.if_icmp .eq 14, 3) := by decide +kernel
theorem dX1_passProp_40 : decode cX1_passProp 40 = .ok (.aload_n 0, 1) := by decide +kernel
theorem dX1_passProp_41 : decode cX1_passProp 41 = .ok (.iload_n 1, 1) := by decide +kernel
theorem dX1_passProp_42 : decode cX1_passProp 42 = .ok (.iconst 1, 1) := by decide +kernel
theorem dX1_passProp_43 : decode cX1_passProp 43 = .ok (.iload 4, 2) := by decide +kernel
theorem dX1_passProp_45 : decode cX1_passProp 45 = .ok (.iload 6, 2) := by decide +kernel
theorem dX1_passProp_47 : decode cX1_passProp 47 = .ok (.iload_n 2, 1) := by decide +kernel
theorem dX1_passProp_48 : decode cX1_passProp 48 = .ok (.invokevirtual 86, 3) := by decide +kernel
theorem dX1_passProp_51 : decode cX1_passProp 51 = .ok (.iload 5, 2) := by decide +kernel
theorem dX1_passProp_53 : decode cX1_passProp 53 = .ok (.iconst 1, 1) := by decide +kernel
theorem dX1_passProp_54 : decode cX1_passProp 54 = .ok (.if_icmp .ne 21, 3) := by decide +kernel
theorem dX1_passProp_57 : decode cX1_passProp 57 = .ok (.iload 7, 2) := by decide +kernel
theorem dX1_passProp_59 : decode cX1_passProp 59 = .ok (.iload 4, 2) := by decide +kernel
theorem dX1_passProp_61 : decode cX1_passProp 61 = .ok (.if_icmp .eq 14, 3) := by decide +kernel
theorem dX1_passProp_64 : decode cX1_passProp 64 = .ok (.aload_n 0, 1) := by decide +kernel
theorem dX1_passProp_65 : decode cX1_passProp 65 = .ok (.iload_n 1, 1) := by decide +kernel
theorem dX1_passProp_66 : decode cX1_passProp 66 = .ok (.iconst 2, 1) := by decide +kernel
theorem dX1_passProp_67 : decode cX1_passProp 67 = .ok (.iload 4, 2) := by decide +kernel
theorem dX1_passProp_69 : decode cX1_passProp 69 = .ok (.iload 6, 2) := by decide +kernel
theorem dX1_passProp_71 : decode cX1_passProp 71 = .ok (.iload_n 2, 1) := by decide +kernel
theorem dX1_passProp_72 : decode cX1_passProp 72 = .ok (.invokevirtual 86, 3) := by decide +kernel
theorem dX1_passProp_75 : decode cX1_passProp 75 = .ok (.iload 5, 2) := by decide +kernel
theorem dX1_passProp_77 : decode cX1_passProp 77 = .ok (.iconst 2, 1) := by decide +kernel
theorem dX1_passProp_78 : decode cX1_passProp 78 = .ok (.if_icmp .ne 21, 3) := by decide +kernel
theorem dX1_passProp_81 : decode cX1_passProp 81 = .ok (.iload 7, 2) := by decide +kernel
theorem dX1_passProp_83 : decode cX1_passProp 83 = .ok (.iload 4, 2) := by decide +kernel
theorem dX1_passProp_85 : decode cX1_passProp 85 = .ok (.if_icmp .eq 14, 3) := by decide +kernel
theorem dX1_passProp_88 : decode cX1_passProp 88 = .ok (.aload_n 0, 1) := by decide +kernel
theorem dX1_passProp_89 : decode cX1_passProp 89 = .ok (.iload_n 1, 1) := by decide +kernel
theorem dX1_passProp_90 : decode cX1_passProp 90 = .ok (.iconst 3, 1) := by decide +kernel
theorem dX1_passProp_91 : decode cX1_passProp 91 = .ok (.iload 4, 2) := by decide +kernel
theorem dX1_passProp_93 : decode cX1_passProp 93 = .ok (.iload 6, 2) := by decide +kernel
theorem dX1_passProp_95 : decode cX1_passProp 95 = .ok (.iload_n 2, 1) := by decide +kernel
theorem dX1_passProp_96 : decode cX1_passProp 96 = .ok (.invokevirtual 86, 3) := by decide +kernel
theorem dX1_passProp_99 : decode cX1_passProp 99 = .ok (.aload_n 0, 1) := by decide +kernel
theorem dX1_passProp_100 : decode cX1_passProp 100 = .ok (.getfield 9, 3) := by decide +kernel
theorem dX1_passProp_103 : decode cX1_passProp 103 = .ok (.iload 6, 2) := by decide +kernel
theorem dX1_passProp_105 : decode cX1_passProp 105 = .ok (.iload 5, 2) := by decide +kernel
theorem dX1_passProp_107 : decode cX1_passProp 107 = .ok (.iconst 1, 1) := by decide +kernel
theorem dX1_passProp_108 : decode cX1_passProp 108 = .ok (.if_icmp .ne 7, 3) := by decide +kernel
theorem dX1_passProp_111 : decode cX1_passProp 111 = .ok (.iconst (-1), 1) := by decide +kernel
theorem dX1_passProp_112 : decode cX1_passProp 112 = .ok (.goto 5, 3) := by decide +kernel
theorem dX1_passProp_115 : decode cX1_passProp 115 = .ok (.iload 4, 2) := by decide +kernel
theorem dX1_passProp_117 : decode cX1_passProp 117 = .ok (.invokestatic 90, 3) := by decide +kernel
theorem dX1_passProp_120 : decode cX1_passProp 120 = .ok (.aload_n 0, 1) := by decide +kernel
theorem dX1_passProp_121 : decode cX1_passProp 121 = .ok (.getfield 18, 3) := by decide +kernel
theorem dX1_passProp_124 : decode cX1_passProp 124 = .ok (.iload 4, 2) := by decide +kernel
theorem dX1_passProp_126 : decode cX1_passProp 126 = .ok (.aload_n 0, 1) := by decide +kernel
theorem dX1_passProp_127 : decode cX1_passProp 127 = .ok (.getfield 18, 3) := by decide +kernel
theorem dX1_passProp_130 : decode cX1_passProp 130 = .ok (.iload 4, 2) := by decide +kernel
theorem dX1_passProp_132 : decode cX1_passProp 132 = .ok (.invokestatic 82, 3) := by decide +kernel
theorem dX1_passProp_135 : decode cX1_passProp 135 = .ok (.iconst 1, 1) := by decide +kernel
theorem dX1_passProp_136 : decode cX1_passProp 136 = .ok (.iload 6, 2) := by decide +kernel
theorem dX1_passProp_138 : decode cX1_passProp 138 = .ok (.ishl, 1) := by decide +kernel
theorem dX1_passProp_139 : decode cX1_passProp 139 = .ok (.ior, 1) := by decide +kernel
theorem dX1_passProp_140 : decode cX1_passProp 140 = .ok (.invokestatic 90, 3) := by decide +kernel
theorem dX1_passProp_143 : decode cX1_passProp 143 = .ok (.return_, 1) := by decide +kernel
set_option maxRecDepth 20000 in
theorem ggX1_passMove_X4_characterIn : GoodIn wsX1_passMove wsX4_characterIn := goodIn_r _ [4] (by decide +kernel) (by decide +kernel)
set_option maxRecDepth 20000 in
theorem gX1_passMove_X4_characterIn_n58 : GoodIn wsX1_passMove (wsX4_characterIn) := ggX1_passMove_X4_characterIn
set_option maxRecDepth 20000 in
theorem ggX1_passMove_X4_kindIn : GoodIn wsX1_passMove wsX4_kindIn := goodIn_r _ [6] (by decide +kernel) (by decide +kernel)
set_option maxRecDepth 20000 in
theorem gX1_passMove_X4_kindIn_n61 : GoodIn wsX1_passMove (wsX4_kindIn) := ggX1_passMove_X4_kindIn
set_option maxRecDepth 20000 in
theorem ggX1_passMove_X4_setCell : GoodIn wsX1_passMove wsX4_setCell := goodIn_r _ [8] (by decide +kernel) (by decide +kernel)
set_option maxRecDepth 20000 in
theorem gX1_passMove_X4_setCell_n90 : GoodIn wsX1_passMove (wsX4_setCell) := ggX1_passMove_X4_setCell
set_option maxRecDepth 20000 in
theorem ggX1_passMove_X4_cell : GoodIn wsX1_passMove wsX4_cell := goodIn_r _ [10] (by decide +kernel) (by decide +kernel)
set_option maxRecDepth 20000 in
theorem gX1_passMove_X4_cell_n82 : GoodIn wsX1_passMove (wsX4_cell) := ggX1_passMove_X4_cell
set_option maxRecDepth 20000 in
theorem ggX1_passMove_X1_addBreak : GoodIn wsX1_passMove wsX1_addBreak := goodIn_r _ [15, 16, 17, 18, 19, 20, 21, 22, 23] (by decide +kernel) (by decide +kernel)
set_option maxRecDepth 20000 in
theorem gX1_passMove_X1_addBreak : GoodIn wsX1_passMove (wsV RX1 86 RX1 yX1_addBreak wsX1_addBreak) := goodIn_app (goodIn_of _ (by decide +kernel)) ggX1_passMove_X1_addBreak
theorem dX1_passMove_0 : decode cX1_passMove 0 = .ok (.iload_n 3, 1) := by decide +kernel
theorem dX1_passMove_1 : decode cX1_passMove 1 = .ok (.invokestatic 58, 3) := by decide +kernel
theorem dX1_passMove_4 : decode cX1_passMove 4 = .ok (.istore 4, 2) := by decide +kernel
theorem dX1_passMove_6 : decode cX1_passMove 6 = .ok (.iload_n 3, 1) := by decide +kernel
theorem dX1_passMove_7 : decode cX1_passMove 7 = .ok (.invokestatic 61, 3) := by decide +kernel
theorem dX1_passMove_10 : decode cX1_passMove 10 = .ok (.istore 5, 2) := by decide +kernel
theorem dX1_passMove_12 : decode cX1_passMove 12 = .ok (.iload 5, 2) := by decide +kernel
theorem dX1_passMove_14 : decode cX1_passMove 14 = .ok (.iconst 5, 1) := by decide +kernel
theorem dX1_passMove_15 : decode cX1_passMove 15 = .ok (.if_icmp .ne 14, 3) := by decide +kernel
theorem dX1_passMove_18 : decode cX1_passMove 18 = .ok (.aload_n 0, 1) := by decide +kernel
theorem dX1_passMove_19 : decode cX1_passMove 19 = .ok (.getfield 15, 3) := by decide +kernel
theorem dX1_passMove_22 : decode cX1_passMove 22 = .ok (.iload 4, 2) := by decide +kernel
theorem dX1_passMove_24 : decode cX1_passMove 24 = .ok (.iconst (-1), 1) := by decide +kernel
theorem dX1_passMove_25 : decode cX1_passMove 25 = .ok (.invokestatic 90, 3) := by decide +kernel
theorem dX1_passMove_28 : decode cX1_passMove 28 = .ok (.return_, 1) := by decide +kernel
theorem dX1_passMove_29 : decode cX1_passMove 29 = .ok (.aload_n 0, 1) := by decide +kernel
theorem dX1_passMove_30 : decode cX1_passMove 30 = .ok (.getfield 15, 3) := by decide +kernel
theorem dX1_passMove_33 : decode cX1_passMove 33 = .ok (.iload 4, 2) := by decide +kernel
theorem dX1_passMove_35 : decode cX1_passMove 35 = .ok (.invokestatic 82, 3) := by decide +kernel
theorem dX1_passMove_38 : decode cX1_passMove 38 = .ok (.istore 6, 2) := by decide +kernel
theorem dX1_passMove_40 : decode cX1_passMove 40 = .ok (.iload 6, 2) := by decide +kernel
theorem dX1_passMove_42 : decode cX1_passMove 42 = .ok (.iconst (-1), 1) := by decide +kernel
theorem dX1_passMove_43 : decode cX1_passMove 43 = .ok (.if_icmp .eq 21, 3) := by decide +kernel
theorem dX1_passMove_46 : decode cX1_passMove 46 = .ok (.iload 6, 2) := by decide +kernel
theorem dX1_passMove_48 : decode cX1_passMove 48 = .ok (.iload 5, 2) := by decide +kernel
theorem dX1_passMove_50 : decode cX1_passMove 50 = .ok (.if_icmp .eq 14, 3) := by decide +kernel
theorem dX1_passMove_53 : decode cX1_passMove 53 = .ok (.aload_n 0, 1) := by decide +kernel
theorem dX1_passMove_54 : decode cX1_passMove 54 = .ok (.iload_n 1, 1) := by decide +kernel
theorem dX1_passMove_55 : decode cX1_passMove 55 = .ok (.iconst 5, 1) := by decide +kernel
theorem dX1_passMove_56 : decode cX1_passMove 56 = .ok (.iload 4, 2) := by decide +kernel
theorem dX1_passMove_58 : decode cX1_passMove 58 = .ok (.bipush (-5), 2) := by decide +kernel
theorem dX1_passMove_60 : decode cX1_passMove 60 = .ok (.iload_n 2, 1) := by decide +kernel
theorem dX1_passMove_61 : decode cX1_passMove 61 = .ok (.invokevirtual 86, 3) := by decide +kernel
theorem dX1_passMove_64 : decode cX1_passMove 64 = .ok (.aload_n 0, 1) := by decide +kernel
theorem dX1_passMove_65 : decode cX1_passMove 65 = .ok (.getfield 15, 3) := by decide +kernel
theorem dX1_passMove_68 : decode cX1_passMove 68 = .ok (.iload 4, 2) := by decide +kernel
theorem dX1_passMove_70 : decode cX1_passMove 70 = .ok (.iload 5, 2) := by decide +kernel
theorem dX1_passMove_72 : decode cX1_passMove 72 = .ok (.invokestatic 90, 3) := by decide +kernel
theorem dX1_passMove_75 : decode cX1_passMove 75 = .ok (.return_, 1) := by decide +kernel
set_option maxRecDepth 20000 in
theorem ggX1_findUndrawn_X4_cell : GoodIn wsX1_findUndrawn wsX4_cell := goodIn_r _ [6] (by decide +kernel) (by decide +kernel)
set_option maxRecDepth 20000 in
theorem gX1_findUndrawn_X4_cell_n82 : GoodIn wsX1_findUndrawn (wsX4_cell) := ggX1_findUndrawn_X4_cell
set_option maxRecDepth 20000 in
theorem ggX1_findUndrawn_X1_addBreak : GoodIn wsX1_findUndrawn wsX1_addBreak := goodIn_r _ [11, 12, 13, 14, 15, 16, 17, 18, 19] (by decide +kernel) (by decide +kernel)
set_option maxRecDepth 20000 in
theorem gX1_findUndrawn_X1_addBreak : GoodIn wsX1_findUndrawn (wsV RX1 86 RX1 yX1_addBreak wsX1_addBreak) := goodIn_app (goodIn_of _ (by decide +kernel)) ggX1_findUndrawn_X1_addBreak
theorem dX1_findUndrawn_0 : decode cX1_findUndrawn 0 = .ok (.iconst 0, 1) := by decide +kernel
theorem dX1_findUndrawn_1 : decode cX1_findUndrawn 1 = .ok (.istore_n 2, 1) := by decide +kernel
theorem dX1_findUndrawn_2 : decode cX1_findUndrawn 2 = .ok (.iload_n 2, 1) := by decide +kernel
theorem dX1_findUndrawn_3 : decode cX1_findUndrawn 3 = .ok (.iconst 4, 1) := by decide +kernel
theorem dX1_findUndrawn_4 : decode cX1_findUndrawn 4 = .ok (.if_icmp .ge 81, 3) := by decide +kernel
theorem dX1_findUndrawn_7 : decode cX1_findUndrawn 7 = .ok (.aload_n 0, 1) := by decide +kernel
theorem dX1_findUndrawn_8 : decode cX1_findUndrawn 8 = .ok (.getfield 21, 3) := by decide +kernel
theorem dX1_findUndrawn_11 : decode cX1_findUndrawn 11 = .ok (.iload_n 2, 1) := by decide +kernel
theorem dX1_findUndrawn_12 : decode cX1_findUndrawn 12 = .ok (.ishr, 1) := by decide +kernel
theorem dX1_findUndrawn_13 : decode cX1_findUndrawn 13 = .ok (.iconst 1, 1) := by decide +kernel
theorem dX1_findUndrawn_14 : decode cX1_findUndrawn 14 = .ok (.iand, 1) := by decide +kernel
theorem dX1_findUndrawn_15 : decode cX1_findUndrawn 15 = .ok (.ifCond .ne 6, 3) := by decide +kernel
theorem dX1_findUndrawn_18 : decode cX1_findUndrawn 18 = .ok (.goto 61, 3) := by decide +kernel
theorem dX1_findUndrawn_21 : decode cX1_findUndrawn 21 = .ok (.aload_n 0, 1) := by decide +kernel
theorem dX1_findUndrawn_22 : decode cX1_findUndrawn 22 = .ok (.getfield 18, 3) := by decide +kernel
theorem dX1_findUndrawn_25 : decode cX1_findUndrawn 25 = .ok (.iload_n 2, 1) := by decide +kernel
theorem dX1_findUndrawn_26 : decode cX1_findUndrawn 26 = .ok (.invokestatic 82, 3) := by decide +kernel
theorem dX1_findUndrawn_29 : decode cX1_findUndrawn 29 = .ok (.istore_n 3, 1) := by decide +kernel
theorem dX1_findUndrawn_30 : decode cX1_findUndrawn 30 = .ok (.iconst 0, 1) := by decide +kernel
theorem dX1_findUndrawn_31 : decode cX1_findUndrawn 31 = .ok (.istore 4, 2) := by decide +kernel
theorem dX1_findUndrawn_33 : decode cX1_findUndrawn 33 = .ok (.iload 4, 2) := by decide +kernel
theorem dX1_findUndrawn_35 : decode cX1_findUndrawn 35 = .ok (.bipush 10, 2) := by decide +kernel
theorem dX1_findUndrawn_37 : decode cX1_findUndrawn 37 = .ok (.if_icmp .ge 42, 3) := by decide +kernel
theorem dX1_findUndrawn_40 : decode cX1_findUndrawn 40 = .ok (.aload_n 0, 1) := by decide +kernel
theorem dX1_findUndrawn_41 : decode cX1_findUndrawn 41 = .ok (.getfield 9, 3) := by decide +kernel
theorem dX1_findUndrawn_44 : decode cX1_findUndrawn 44 = .ok (.iload 4, 2) := by decide +kernel
theorem dX1_findUndrawn_46 : decode cX1_findUndrawn 46 = .ok (.invokestatic 82, 3) := by decide +kernel
theorem dX1_findUndrawn_49 : decode cX1_findUndrawn 49 = .ok (.iload_n 2, 1) := by decide +kernel
theorem dX1_findUndrawn_50 : decode cX1_findUndrawn 50 = .ok (.if_icmp .ne 23, 3) := by decide +kernel
theorem dX1_findUndrawn_53 : decode cX1_findUndrawn 53 = .ok (.iload_n 3, 1) := by decide +kernel
theorem dX1_findUndrawn_54 : decode cX1_findUndrawn 54 = .ok (.iload 4, 2) := by decide +kernel
theorem dX1_findUndrawn_56 : decode cX1_findUndrawn 56 = .ok (.ishr, 1) := by decide +kernel
theorem dX1_findUndrawn_57 : decode cX1_findUndrawn 57 = .ok (.iconst 1, 1) := by decide +kernel
theorem dX1_findUndrawn_58 : decode cX1_findUndrawn 58 = .ok (.iand, 1) := by decide +kernel
theorem dX1_findUndrawn_59 : decode cX1_findUndrawn 59 = .ok (.ifCond .ne 14, 3) := by decide +kernel
theorem dX1_findUndrawn_62 : decode cX1_findUndrawn 62 = .ok (.aload_n 0, 1) := by decide +kernel
theorem dX1_findUndrawn_63 : decode cX1_findUndrawn 63 = .ok (.iload_n 1, 1) := by decide +kernel
theorem dX1_findUndrawn_64 : decode cX1_findUndrawn 64 = .ok (.iconst 4, 1) := by decide +kernel
theorem dX1_findUndrawn_65 : decode cX1_findUndrawn 65 = .ok (.iload_n 2, 1) := by decide +kernel
theorem dX1_findUndrawn_66 : decode cX1_findUndrawn 66 = .ok (.iload 4, 2) := by decide +kernel
theorem dX1_findUndrawn_68 : decode cX1_findUndrawn 68 = .ok (.bipush (-5), 2) := by decide +kernel
theorem dX1_findUndrawn_70 : decode cX1_findUndrawn 70 = .ok (.invokevirtual 86, 3) := by decide +kernel
theorem dX1_findUndrawn_73 : decode cX1_findUndrawn 73 = .ok (.iinc 4 1, 3) := by decide +kernel
theorem dX1_findUndrawn_76 : decode cX1_findUndrawn 76 = .ok (.goto (-43), 3) := by decide +kernel
theorem dX1_findUndrawn_79 : decode cX1_findUndrawn 79 = .ok (.iinc 2 1, 3) := by decide +kernel
theorem dX1_findUndrawn_82 : decode cX1_findUndrawn 82 = .ok (.goto (-80), 3) := by decide +kernel
theorem dX1_findUndrawn_85 : decode cX1_findUndrawn 85 = .ok (.return_, 1) := by decide +kernel
theorem dX1_addBreak_0 : decode cX1_addBreak 0 = .ok (.aload_n 0, 1) := by decide +kernel
theorem dX1_addBreak_1 : decode cX1_addBreak 1 = .ok (.getfield 28, 3) := by decide +kernel
theorem dX1_addBreak_4 : decode cX1_addBreak 4 = .ok (.iconst 5, 1) := by decide +kernel
theorem dX1_addBreak_5 : decode cX1_addBreak 5 = .ok (.imul, 1) := by decide +kernel
theorem dX1_addBreak_6 : decode cX1_addBreak 6 = .ok (.istore 6, 2) := by decide +kernel
theorem dX1_addBreak_8 : decode cX1_addBreak 8 = .ok (.iload 6, 2) := by decide +kernel
theorem dX1_addBreak_10 : decode cX1_addBreak 10 = .ok (.ifCond .lt 15, 3) := by decide +kernel
theorem dX1_addBreak_13 : decode cX1_addBreak 13 = .ok (.iload 6, 2) := by decide +kernel
theorem dX1_addBreak_15 : decode cX1_addBreak 15 = .ok (.iconst 5, 1) := by decide +kernel
theorem dX1_addBreak_16 : decode cX1_addBreak 16 = .ok (.iadd, 1) := by decide +kernel
theorem dX1_addBreak_17 : decode cX1_addBreak 17 = .ok (.aload_n 0, 1) := by decide +kernel
theorem dX1_addBreak_18 : decode cX1_addBreak 18 = .ok (.getfield 25, 3) := by decide +kernel
theorem dX1_addBreak_21 : decode cX1_addBreak 21 = .ok (.arraylength, 1) := by decide +kernel
theorem dX1_addBreak_22 : decode cX1_addBreak 22 = .ok (.if_icmp .le 4, 3) := by decide +kernel
theorem dX1_addBreak_25 : decode cX1_addBreak 25 = .ok (.return_, 1) := by decide +kernel
theorem dX1_addBreak_26 : decode cX1_addBreak 26 = .ok (.aload_n 0, 1) := by decide +kernel
theorem dX1_addBreak_27 : decode cX1_addBreak 27 = .ok (.getfield 25, 3) := by decide +kernel
theorem dX1_addBreak_30 : decode cX1_addBreak 30 = .ok (.iload 6, 2) := by decide +kernel
theorem dX1_addBreak_32 : decode cX1_addBreak 32 = .ok (.iconst 0, 1) := by decide +kernel
theorem dX1_addBreak_33 : decode cX1_addBreak 33 = .ok (.iadd, 1) := by decide +kernel
theorem dX1_addBreak_34 : decode cX1_addBreak 34 = .ok (.iload_n 1, 1) := by decide +kernel
theorem dX1_addBreak_35 : decode cX1_addBreak 35 = .ok (.iastore, 1) := by decide +kernel
theorem dX1_addBreak_36 : decode cX1_addBreak 36 = .ok (.aload_n 0, 1) := by decide +kernel
theorem dX1_addBreak_37 : decode cX1_addBreak 37 = .ok (.getfield 25, 3) := by decide +kernel
theorem dX1_addBreak_40 : decode cX1_addBreak 40 = .ok (.iload 6, 2) := by decide +kernel
theorem dX1_addBreak_42 : decode cX1_addBreak 42 = .ok (.iconst 1, 1) := by decide +kernel
theorem dX1_addBreak_43 : decode cX1_addBreak 43 = .ok (.iadd, 1) := by decide +kernel
theorem dX1_addBreak_44 : decode cX1_addBreak 44 = .ok (.iload_n 2, 1) := by decide +kernel
theorem dX1_addBreak_45 : decode cX1_addBreak 45 = .ok (.iastore, 1) := by decide +kernel
theorem dX1_addBreak_46 : decode cX1_addBreak 46 = .ok (.aload_n 0, 1) := by decide +kernel
theorem dX1_addBreak_47 : decode cX1_addBreak 47 = .ok (.getfield 25, 3) := by decide +kernel
theorem dX1_addBreak_50 : decode cX1_addBreak 50 = .ok (.iload 6, 2) := by decide +kernel
theorem dX1_addBreak_52 : decode cX1_addBreak 52 = .ok (.iconst 2, 1) := by decide +kernel
theorem dX1_addBreak_53 : decode cX1_addBreak 53 = .ok (.iadd, 1) := by decide +kernel
theorem dX1_addBreak_54 : decode cX1_addBreak 54 = .ok (.iload_n 3, 1) := by decide +kernel
theorem dX1_addBreak_55 : decode cX1_addBreak 55 = .ok (.iastore, 1) := by decide +kernel
theorem dX1_addBreak_56 : decode cX1_addBreak 56 = .ok (.aload_n 0, 1) := by decide +kernel
theorem dX1_addBreak_57 : decode cX1_addBreak 57 = .ok (.getfield 25, 3) := by decide +kernel
theorem dX1_addBreak_60 : decode cX1_addBreak 60 = .ok (.iload 6, 2) := by decide +kernel
theorem dX1_addBreak_62 : decode cX1_addBreak 62 = .ok (.iconst 3, 1) := by decide +kernel
theorem dX1_addBreak_63 : decode cX1_addBreak 63 = .ok (.iadd, 1) := by decide +kernel
theorem dX1_addBreak_64 : decode cX1_addBreak 64 = .ok (.iload 4, 2) := by decide +kernel
theorem dX1_addBreak_66 : decode cX1_addBreak 66 = .ok (.iastore, 1) := by decide +kernel
theorem dX1_addBreak_67 : decode cX1_addBreak 67 = .ok (.aload_n 0, 1) := by decide +kernel
theorem dX1_addBreak_68 : decode cX1_addBreak 68 = .ok (.getfield 25, 3) := by decide +kernel
theorem dX1_addBreak_71 : decode cX1_addBreak 71 = .ok (.iload 6, 2) := by decide +kernel
theorem dX1_addBreak_73 : decode cX1_addBreak 73 = .ok (.iconst 4, 1) := by decide +kernel
theorem dX1_addBreak_74 : decode cX1_addBreak 74 = .ok (.iadd, 1) := by decide +kernel
theorem dX1_addBreak_75 : decode cX1_addBreak 75 = .ok (.iload 5, 2) := by decide +kernel
theorem dX1_addBreak_77 : decode cX1_addBreak 77 = .ok (.iastore, 1) := by decide +kernel
theorem dX1_addBreak_78 : decode cX1_addBreak 78 = .ok (.aload_n 0, 1) := by decide +kernel
theorem dX1_addBreak_79 : decode cX1_addBreak 79 = .ok (.dup, 1) := by decide +kernel
theorem dX1_addBreak_80 : decode cX1_addBreak 80 = .ok (.getfield 28, 3) := by decide +kernel
theorem dX1_addBreak_83 : decode cX1_addBreak 83 = .ok (.iconst 1, 1) := by decide +kernel
theorem dX1_addBreak_84 : decode cX1_addBreak 84 = .ok (.iadd, 1) := by decide +kernel
theorem dX1_addBreak_85 : decode cX1_addBreak 85 = .ok (.putfield 28, 3) := by decide +kernel
theorem dX1_addBreak_88 : decode cX1_addBreak 88 = .ok (.return_, 1) := by decide +kernel
set_option maxRecDepth 20000 in
theorem ggX1_numberOfBreak_X4_cell : GoodIn wsX1_numberOfBreak wsX4_cell := goodIn_r _ [4] (by decide +kernel) (by decide +kernel)
set_option maxRecDepth 20000 in
theorem gX1_numberOfBreak_X4_cell_n82 : GoodIn wsX1_numberOfBreak (wsX4_cell) := ggX1_numberOfBreak_X4_cell
theorem dX1_numberOfBreak_0 : decode cX1_numberOfBreak 0 = .ok (.aload_n 0, 1) := by decide +kernel
theorem dX1_numberOfBreak_1 : decode cX1_numberOfBreak 1 = .ok (.getfield 25, 3) := by decide +kernel
theorem dX1_numberOfBreak_4 : decode cX1_numberOfBreak 4 = .ok (.iload_n 1, 1) := by decide +kernel
theorem dX1_numberOfBreak_5 : decode cX1_numberOfBreak 5 = .ok (.iconst 5, 1) := by decide +kernel
theorem dX1_numberOfBreak_6 : decode cX1_numberOfBreak 6 = .ok (.imul, 1) := by decide +kernel
theorem dX1_numberOfBreak_7 : decode cX1_numberOfBreak 7 = .ok (.iload_n 2, 1) := by decide +kernel
theorem dX1_numberOfBreak_8 : decode cX1_numberOfBreak 8 = .ok (.iadd, 1) := by decide +kernel
theorem dX1_numberOfBreak_9 : decode cX1_numberOfBreak 9 = .ok (.invokestatic 82, 3) := by decide +kernel
theorem dX1_numberOfBreak_12 : decode cX1_numberOfBreak 12 = .ok (.ireturn, 1) := by decide +kernel
set_option maxRecDepth 20000 in
theorem ggX1_holderOf_X4_cell : GoodIn wsX1_holderOf wsX4_cell := goodIn_r _ [4] (by decide +kernel) (by decide +kernel)
set_option maxRecDepth 20000 in
theorem gX1_holderOf_X4_cell_n82 : GoodIn wsX1_holderOf (wsX4_cell) := ggX1_holderOf_X4_cell
theorem dX1_holderOf_0 : decode cX1_holderOf 0 = .ok (.aload_n 0, 1) := by decide +kernel
theorem dX1_holderOf_1 : decode cX1_holderOf 1 = .ok (.getfield 9, 3) := by decide +kernel
theorem dX1_holderOf_4 : decode cX1_holderOf 4 = .ok (.iload_n 1, 1) := by decide +kernel
theorem dX1_holderOf_5 : decode cX1_holderOf 5 = .ok (.invokestatic 82, 3) := by decide +kernel
theorem dX1_holderOf_8 : decode cX1_holderOf 8 = .ok (.ireturn, 1) := by decide +kernel
set_option maxRecDepth 20000 in
theorem ggX1_propsHeld_X4_cell : GoodIn wsX1_propsHeld wsX4_cell := goodIn_r _ [4] (by decide +kernel) (by decide +kernel)
set_option maxRecDepth 20000 in
theorem gX1_propsHeld_X4_cell_n82 : GoodIn wsX1_propsHeld (wsX4_cell) := ggX1_propsHeld_X4_cell
theorem dX1_propsHeld_0 : decode cX1_propsHeld 0 = .ok (.iconst 0, 1) := by decide +kernel
theorem dX1_propsHeld_1 : decode cX1_propsHeld 1 = .ok (.istore_n 1, 1) := by decide +kernel
theorem dX1_propsHeld_2 : decode cX1_propsHeld 2 = .ok (.iconst 0, 1) := by decide +kernel
theorem dX1_propsHeld_3 : decode cX1_propsHeld 3 = .ok (.istore_n 2, 1) := by decide +kernel
theorem dX1_propsHeld_4 : decode cX1_propsHeld 4 = .ok (.iload_n 2, 1) := by decide +kernel
theorem dX1_propsHeld_5 : decode cX1_propsHeld 5 = .ok (.bipush 10, 2) := by decide +kernel
theorem dX1_propsHeld_7 : decode cX1_propsHeld 7 = .ok (.if_icmp .ge 24, 3) := by decide +kernel
theorem dX1_propsHeld_10 : decode cX1_propsHeld 10 = .ok (.aload_n 0, 1) := by decide +kernel
theorem dX1_propsHeld_11 : decode cX1_propsHeld 11 = .ok (.getfield 9, 3) := by decide +kernel
theorem dX1_propsHeld_14 : decode cX1_propsHeld 14 = .ok (.iload_n 2, 1) := by decide +kernel
theorem dX1_propsHeld_15 : decode cX1_propsHeld 15 = .ok (.invokestatic 82, 3) := by decide +kernel
theorem dX1_propsHeld_18 : decode cX1_propsHeld 18 = .ok (.iconst (-1), 1) := by decide +kernel
theorem dX1_propsHeld_19 : decode cX1_propsHeld 19 = .ok (.if_icmp .eq 6, 3) := by decide +kernel
theorem dX1_propsHeld_22 : decode cX1_propsHeld 22 = .ok (.iinc 1 1, 3) := by decide +kernel
theorem dX1_propsHeld_25 : decode cX1_propsHeld 25 = .ok (.iinc 2 1, 3) := by decide +kernel
theorem dX1_propsHeld_28 : decode cX1_propsHeld 28 = .ok (.goto (-24), 3) := by decide +kernel
theorem dX1_propsHeld_31 : decode cX1_propsHeld 31 = .ok (.iload_n 1, 1) := by decide +kernel
theorem dX1_propsHeld_32 : decode cX1_propsHeld 32 = .ok (.ireturn, 1) := by decide +kernel
set_option maxRecDepth 20000 in
theorem ggX2_init_X0_init : GoodIn wsX2_init wsX0_init := goodIn_r _ [11, 12, 2, 3, 13, 14, 15, 16, 17, 18, 19, 20, 21, 22, 23, 24, 25, 26, 27, 30, 31, 32, 33, 34, 35, 36, 37, 38] (by decide +kernel) (by decide +kernel)
set_option maxRecDepth 20000 in
theorem gX2_init_X0_init : GoodIn wsX2_init (wsX0_init) := ggX2_init_X0_init
theorem dX2_init_0 : decode cX2_init 0 = .ok (.aload_n 0, 1) := by decide +kernel
theorem dX2_init_1 : decode cX2_init 1 = .ok (.invokespecial 3, 3) := by decide +kernel
theorem dX2_init_4 : decode cX2_init 4 = .ok (.aload_n 0, 1) := by decide +kernel
theorem dX2_init_5 : decode cX2_init 5 = .ok (.iconst 4, 1) := by decide +kernel
theorem dX2_init_6 : decode cX2_init 6 = .ok (.anewarray 9, 3) := by decide +kernel
theorem dX2_init_9 : decode cX2_init 9 = .ok (.putfield 11, 3) := by decide +kernel
theorem dX2_init_12 : decode cX2_init 12 = .ok (.aload_n 0, 1) := by decide +kernel
theorem dX2_init_13 : decode cX2_init 13 = .ok (.iconst 0, 1) := by decide +kernel
theorem dX2_init_14 : decode cX2_init 14 = .ok (.putfield 17, 3) := by decide +kernel
theorem dX2_init_17 : decode cX2_init 17 = .ok (.iconst 0, 1) := by decide +kernel
theorem dX2_init_18 : decode cX2_init 18 = .ok (.istore_n 1, 1) := by decide +kernel
theorem dX2_init_19 : decode cX2_init 19 = .ok (.iload_n 1, 1) := by decide +kernel
theorem dX2_init_20 : decode cX2_init 20 = .ok (.aload_n 0, 1) := by decide +kernel
theorem dX2_init_21 : decode cX2_init 21 = .ok (.getfield 11, 3) := by decide +kernel
theorem dX2_init_24 : decode cX2_init 24 = .ok (.arraylength, 1) := by decide +kernel
theorem dX2_init_25 : decode cX2_init 25 = .ok (.if_icmp .ge 22, 3) := by decide +kernel
theorem dX2_init_28 : decode cX2_init 28 = .ok (.aload_n 0, 1) := by decide +kernel
theorem dX2_init_29 : decode cX2_init 29 = .ok (.getfield 11, 3) := by decide +kernel
theorem dX2_init_32 : decode cX2_init 32 = .ok (.iload_n 1, 1) := by decide +kernel
theorem dX2_init_33 : decode cX2_init 33 = .ok (.new 9, 3) := by decide +kernel
theorem dX2_init_36 : decode cX2_init 36 = .ok (.dup, 1) := by decide +kernel
theorem dX2_init_37 : decode cX2_init 37 = .ok (.invokespecial 21, 3) := by decide +kernel
theorem dX2_init_40 : decode cX2_init 40 = .ok (.aastore, 1) := by decide +kernel
theorem dX2_init_41 : decode cX2_init 41 = .ok (.iinc 1 1, 3) := by decide +kernel
theorem dX2_init_44 : decode cX2_init 44 = .ok (.goto (-25), 3) := by decide +kernel
theorem dX2_init_47 : decode cX2_init 47 = .ok (.return_, 1) := by decide +kernel
set_option maxRecDepth 20000 in
theorem ggX2_remember_X2_dropOldest : GoodIn wsX2_remember wsX2_dropOldest := goodIn_r _ [6, 7, 1, 8, 9, 10, 5, 11, 29, 30] (by decide +kernel) (by decide +kernel)
set_option maxRecDepth 20000 in
theorem gX2_remember_X2_dropOldest : GoodIn wsX2_remember (wsV RX2 22 RX2 yX2_dropOldest wsX2_dropOldest) := goodIn_app (goodIn_of _ (by decide +kernel)) ggX2_remember_X2_dropOldest
set_option maxRecDepth 20000 in
theorem ggX2_remember_X2_stateAt : GoodIn wsX2_remember wsX2_stateAt := goodIn_r _ [11, 7, 29, 30] (by decide +kernel) (by decide +kernel)
set_option maxRecDepth 20000 in
theorem gX2_remember_X2_stateAt : GoodIn wsX2_remember (wsV RX2 25 RX2 yX2_stateAt wsX2_stateAt) := goodIn_app (goodIn_of _ (by decide +kernel)) ggX2_remember_X2_stateAt
set_option maxRecDepth 20000 in
theorem ggX2_remember_X0_copyFrom : GoodIn wsX2_remember wsX0_copyFrom := goodIn_r _ [16, 17, 18, 19, 20, 21, 22, 23, 24, 25, 26, 27, 28, 31, 32, 33, 34, 35, 36, 37, 38, 39] (by decide +kernel) (by decide +kernel)
set_option maxRecDepth 20000 in
theorem gX2_remember_X0_copyFrom : GoodIn wsX2_remember (wsV RX2 29 RX0 yX0_copyFrom wsX0_copyFrom) := goodIn_app (goodIn_of _ (by decide +kernel)) ggX2_remember_X0_copyFrom
theorem dX2_remember_0 : decode cX2_remember 0 = .ok (.aload_n 0, 1) := by decide +kernel
theorem dX2_remember_1 : decode cX2_remember 1 = .ok (.getfield 17, 3) := by decide +kernel
theorem dX2_remember_4 : decode cX2_remember 4 = .ok (.iconst 4, 1) := by decide +kernel
theorem dX2_remember_5 : decode cX2_remember 5 = .ok (.if_icmp .lt 7, 3) := by decide +kernel
theorem dX2_remember_8 : decode cX2_remember 8 = .ok (.aload_n 0, 1) := by decide +kernel
theorem dX2_remember_9 : decode cX2_remember 9 = .ok (.invokevirtual 22, 3) := by decide +kernel
theorem dX2_remember_12 : decode cX2_remember 12 = .ok (.aload_n 0, 1) := by decide +kernel
theorem dX2_remember_13 : decode cX2_remember 13 = .ok (.aload_n 0, 1) := by decide +kernel
theorem dX2_remember_14 : decode cX2_remember 14 = .ok (.getfield 17, 3) := by decide +kernel
theorem dX2_remember_17 : decode cX2_remember 17 = .ok (.invokevirtual 25, 3) := by decide +kernel
theorem dX2_remember_20 : decode cX2_remember 20 = .ok (.astore_n 2, 1) := by decide +kernel
theorem dX2_remember_21 : decode cX2_remember 21 = .ok (.aload_n 2, 1) := by decide +kernel
theorem dX2_remember_22 : decode cX2_remember 22 = .ok (.ifnonnull 4, 3) := by decide +kernel
theorem dX2_remember_25 : decode cX2_remember 25 = .ok (.return_, 1) := by decide +kernel
theorem dX2_remember_26 : decode cX2_remember 26 = .ok (.aload_n 2, 1) := by decide +kernel
theorem dX2_remember_27 : decode cX2_remember 27 = .ok (.aload_n 1, 1) := by decide +kernel
theorem dX2_remember_28 : decode cX2_remember 28 = .ok (.invokevirtual 29, 3) := by decide +kernel
theorem dX2_remember_31 : decode cX2_remember 31 = .ok (.aload_n 0, 1) := by decide +kernel
theorem dX2_remember_32 : decode cX2_remember 32 = .ok (.dup, 1) := by decide +kernel
theorem dX2_remember_33 : decode cX2_remember 33 = .ok (.getfield 17, 3) := by decide +kernel
theorem dX2_remember_36 : decode cX2_remember 36 = .ok (.iconst 1, 1) := by decide +kernel
theorem dX2_remember_37 : decode cX2_remember 37 = .ok (.iadd, 1) := by decide +kernel
theorem dX2_remember_38 : decode cX2_remember 38 = .ok (.putfield 17, 3) := by decide +kernel
theorem dX2_remember_41 : decode cX2_remember 41 = .ok (.return_, 1) := by decide +kernel
set_option maxRecDepth 20000 in
theorem ggX2_takeBack_X2_stateAt : GoodIn wsX2_takeBack wsX2_stateAt := goodIn_r _ [6, 7, 25, 26] (by decide +kernel) (by decide +kernel)
set_option maxRecDepth 20000 in
theorem gX2_takeBack_X2_stateAt : GoodIn wsX2_takeBack (wsV RX2 25 RX2 yX2_stateAt wsX2_stateAt) := goodIn_app (goodIn_of _ (by decide +kernel)) ggX2_takeBack_X2_stateAt
set_option maxRecDepth 20000 in
theorem ggX2_takeBack_X0_copyFrom : GoodIn wsX2_takeBack wsX0_copyFrom := goodIn_r _ [12, 13, 14, 15, 16, 17, 18, 19, 20, 21, 22, 23, 24, 27, 28, 29, 30, 31, 32, 33, 34, 35] (by decide +kernel) (by decide +kernel)
set_option maxRecDepth 20000 in
theorem gX2_takeBack_X0_copyFrom : GoodIn wsX2_takeBack (wsV RX2 29 RX0 yX0_copyFrom wsX0_copyFrom) := goodIn_app (goodIn_of _ (by decide +kernel)) ggX2_takeBack_X0_copyFrom
theorem dX2_takeBack_0 : decode cX2_takeBack 0 = .ok (.aload_n 0, 1) := by decide +kernel
theorem dX2_takeBack_1 : decode cX2_takeBack 1 = .ok (.aload_n 0, 1) := by decide +kernel
theorem dX2_takeBack_2 : decode cX2_takeBack 2 = .ok (.getfield 17, 3) := by decide +kernel
theorem dX2_takeBack_5 : decode cX2_takeBack 5 = .ok (.iconst 1, 1) := by decide +kernel
theorem dX2_takeBack_6 : decode cX2_takeBack 6 = .ok (.isub, 1) := by decide +kernel
theorem dX2_takeBack_7 : decode cX2_takeBack 7 = .ok (.invokevirtual 25, 3) := by decide +kernel
theorem dX2_takeBack_10 : decode cX2_takeBack 10 = .ok (.astore_n 2, 1) := by decide +kernel
theorem dX2_takeBack_11 : decode cX2_takeBack 11 = .ok (.aload_n 2, 1) := by decide +kernel
theorem dX2_takeBack_12 : decode cX2_takeBack 12 = .ok (.ifnonnull 4, 3) := by decide +kernel
theorem dX2_takeBack_15 : decode cX2_takeBack 15 = .ok (.return_, 1) := by decide +kernel
theorem dX2_takeBack_16 : decode cX2_takeBack 16 = .ok (.aload_n 1, 1) := by decide +kernel
theorem dX2_takeBack_17 : decode cX2_takeBack 17 = .ok (.aload_n 2, 1) := by decide +kernel
theorem dX2_takeBack_18 : decode cX2_takeBack 18 = .ok (.invokevirtual 29, 3) := by decide +kernel
theorem dX2_takeBack_21 : decode cX2_takeBack 21 = .ok (.aload_n 0, 1) := by decide +kernel
theorem dX2_takeBack_22 : decode cX2_takeBack 22 = .ok (.dup, 1) := by decide +kernel
theorem dX2_takeBack_23 : decode cX2_takeBack 23 = .ok (.getfield 17, 3) := by decide +kernel
theorem dX2_takeBack_26 : decode cX2_takeBack 26 = .ok (.iconst 1, 1) := by decide +kernel
theorem dX2_takeBack_27 : decode cX2_takeBack 27 = .ok (.isub, 1) := by decide +kernel
theorem dX2_takeBack_28 : decode cX2_takeBack 28 = .ok (.putfield 17, 3) := by decide +kernel
theorem dX2_takeBack_31 : decode cX2_takeBack 31 = .ok (.return_, 1) := by decide +kernel
theorem dX2_stateAt_0 : decode cX2_stateAt 0 = .ok (.iload_n 1, 1) := by decide +kernel
theorem dX2_stateAt_1 : decode cX2_stateAt 1 = .ok (.ifCond .lt 21, 3) := by decide +kernel
theorem dX2_stateAt_4 : decode cX2_stateAt 4 = .ok (.iload_n 1, 1) := by decide +kernel
theorem dX2_stateAt_5 : decode cX2_stateAt 5 = .ok (.aload_n 0, 1) := by decide +kernel
theorem dX2_stateAt_6 : decode cX2_stateAt 6 = .ok (.getfield 11, 3) := by decide +kernel
theorem dX2_stateAt_9 : decode cX2_stateAt 9 = .ok (.arraylength, 1) := by decide +kernel
theorem dX2_stateAt_10 : decode cX2_stateAt 10 = .ok (.if_icmp .ge 12, 3) := by decide +kernel
theorem dX2_stateAt_13 : decode cX2_stateAt 13 = .ok (.aload_n 0, 1) := by decide +kernel
theorem dX2_stateAt_14 : decode cX2_stateAt 14 = .ok (.getfield 11, 3) := by decide +kernel
theorem dX2_stateAt_17 : decode cX2_stateAt 17 = .ok (.iload_n 1, 1) := by decide +kernel
theorem dX2_stateAt_18 : decode cX2_stateAt 18 = .ok (.aaload, 1) := by decide +kernel
theorem dX2_stateAt_19 : decode cX2_stateAt 19 = .ok (.goto 4, 3) := by decide +kernel
theorem dX2_stateAt_22 : decode cX2_stateAt 22 = .ok (.aconst_null, 1) := by decide +kernel
theorem dX2_stateAt_23 : decode cX2_stateAt 23 = .ok (.areturn, 1) := by decide +kernel
set_option maxRecDepth 20000 in
theorem ggX2_dropOldest_X2_stateAt : GoodIn wsX2_dropOldest wsX2_stateAt := goodIn_r _ [7, 1, 8, 9] (by decide +kernel) (by decide +kernel)
set_option maxRecDepth 20000 in
theorem gX2_dropOldest_X2_stateAt : GoodIn wsX2_dropOldest (wsV RX2 25 RX2 yX2_stateAt wsX2_stateAt) := goodIn_app (goodIn_of _ (by decide +kernel)) ggX2_dropOldest_X2_stateAt
theorem dX2_dropOldest_0 : decode cX2_dropOldest 0 = .ok (.aload_n 0, 1) := by decide +kernel
theorem dX2_dropOldest_1 : decode cX2_dropOldest 1 = .ok (.iconst 0, 1) := by decide +kernel
theorem dX2_dropOldest_2 : decode cX2_dropOldest 2 = .ok (.invokevirtual 25, 3) := by decide +kernel
theorem dX2_dropOldest_5 : decode cX2_dropOldest 5 = .ok (.astore_n 1, 1) := by decide +kernel
theorem dX2_dropOldest_6 : decode cX2_dropOldest 6 = .ok (.iconst 1, 1) := by decide +kernel
theorem dX2_dropOldest_7 : decode cX2_dropOldest 7 = .ok (.istore_n 2, 1) := by decide +kernel
theorem dX2_dropOldest_8 : decode cX2_dropOldest 8 = .ok (.iload_n 2, 1) := by decide +kernel
theorem dX2_dropOldest_9 : decode cX2_dropOldest 9 = .ok (.aload_n 0, 1) := by decide +kernel
theorem dX2_dropOldest_10 : decode cX2_dropOldest 10 = .ok (.getfield 11, 3) := by decide +kernel
theorem dX2_dropOldest_13 : decode cX2_dropOldest 13 = .ok (.arraylength, 1) := by decide +kernel
theorem dX2_dropOldest_14 : decode cX2_dropOldest 14 = .ok (.if_icmp .ge 23, 3) := by decide +kernel
theorem dX2_dropOldest_17 : decode cX2_dropOldest 17 = .ok (.aload_n 0, 1) := by decide +kernel
theorem dX2_dropOldest_18 : decode cX2_dropOldest 18 = .ok (.getfield 11, 3) := by decide +kernel
theorem dX2_dropOldest_21 : decode cX2_dropOldest 21 = .ok (.iload_n 2, 1) := by decide +kernel
theorem dX2_dropOldest_22 : decode cX2_dropOldest 22 = .ok (.iconst 1, 1) := by decide +kernel
theorem dX2_dropOldest_23 : decode cX2_dropOldest 23 = .ok (.isub, 1) := by decide +kernel
theorem dX2_dropOldest_24 : decode cX2_dropOldest 24 = .ok (.aload_n 0, 1) := by decide +kernel
theorem dX2_dropOldest_25 : decode cX2_dropOldest 25 = .ok (.getfield 11, 3) := by decide +kernel
theorem dX2_dropOldest_28 : decode cX2_dropOldest 28 = .ok (.iload_n 2, 1) := by decide +kernel
theorem dX2_dropOldest_29 : decode cX2_dropOldest 29 = .ok (.aaload, 1) := by decide +kernel
theorem dX2_dropOldest_30 : decode cX2_dropOldest 30 = .ok (.aastore, 1) := by decide +kernel
theorem dX2_dropOldest_31 : decode cX2_dropOldest 31 = .ok (.iinc 2 1, 3) := by decide +kernel
theorem dX2_dropOldest_34 : decode cX2_dropOldest 34 = .ok (.goto (-26), 3) := by decide +kernel
theorem dX2_dropOldest_37 : decode cX2_dropOldest 37 = .ok (.aload_n 0, 1) := by decide +kernel
theorem dX2_dropOldest_38 : decode cX2_dropOldest 38 = .ok (.getfield 11, 3) := by decide +kernel
theorem dX2_dropOldest_41 : decode cX2_dropOldest 41 = .ok (.arraylength, 1) := by decide +kernel
theorem dX2_dropOldest_42 : decode cX2_dropOldest 42 = .ok (.ifCond .le 16, 3) := by decide +kernel
theorem dX2_dropOldest_45 : decode cX2_dropOldest 45 = .ok (.aload_n 0, 1) := by decide +kernel
theorem dX2_dropOldest_46 : decode cX2_dropOldest 46 = .ok (.getfield 11, 3) := by decide +kernel
theorem dX2_dropOldest_49 : decode cX2_dropOldest 49 = .ok (.aload_n 0, 1) := by decide +kernel
theorem dX2_dropOldest_50 : decode cX2_dropOldest 50 = .ok (.getfield 11, 3) := by decide +kernel
theorem dX2_dropOldest_53 : decode cX2_dropOldest 53 = .ok (.arraylength, 1) := by decide +kernel
theorem dX2_dropOldest_54 : decode cX2_dropOldest 54 = .ok (.iconst 1, 1) := by decide +kernel
theorem dX2_dropOldest_55 : decode cX2_dropOldest 55 = .ok (.isub, 1) := by decide +kernel
theorem dX2_dropOldest_56 : decode cX2_dropOldest 56 = .ok (.aload_n 1, 1) := by decide +kernel
theorem dX2_dropOldest_57 : decode cX2_dropOldest 57 = .ok (.aastore, 1) := by decide +kernel
theorem dX2_dropOldest_58 : decode cX2_dropOldest 58 = .ok (.aload_n 0, 1) := by decide +kernel
theorem dX2_dropOldest_59 : decode cX2_dropOldest 59 = .ok (.dup, 1) := by decide +kernel
theorem dX2_dropOldest_60 : decode cX2_dropOldest 60 = .ok (.getfield 17, 3) := by decide +kernel
theorem dX2_dropOldest_63 : decode cX2_dropOldest 63 = .ok (.iconst 1, 1) := by decide +kernel
theorem dX2_dropOldest_64 : decode cX2_dropOldest 64 = .ok (.isub, 1) := by decide +kernel
theorem dX2_dropOldest_65 : decode cX2_dropOldest 65 = .ok (.putfield 17, 3) := by decide +kernel
theorem dX2_dropOldest_68 : decode cX2_dropOldest 68 = .ok (.return_, 1) := by decide +kernel
theorem dX3_init_0 : decode cX3_init 0 = .ok (.aload_n 0, 1) := by decide +kernel
theorem dX3_init_1 : decode cX3_init 1 = .ok (.invokespecial 3, 3) := by decide +kernel
theorem dX3_init_4 : decode cX3_init 4 = .ok (.aload_n 0, 1) := by decide +kernel
theorem dX3_init_5 : decode cX3_init 5 = .ok (.bipush 60, 2) := by decide +kernel
theorem dX3_init_7 : decode cX3_init 7 = .ok (.newarray .int, 2) := by decide +kernel
theorem dX3_init_9 : decode cX3_init 9 = .ok (.putfield 9, 3) := by decide +kernel
theorem dX3_init_12 : decode cX3_init 12 = .ok (.aload_n 0, 1) := by decide +kernel
theorem dX3_init_13 : decode cX3_init 13 = .ok (.iconst 0, 1) := by decide +kernel
theorem dX3_init_14 : decode cX3_init 14 = .ok (.putfield 15, 3) := by decide +kernel
theorem dX3_init_17 : decode cX3_init 17 = .ok (.aload_n 0, 1) := by decide +kernel
theorem dX3_init_18 : decode cX3_init 18 = .ok (.iconst 0, 1) := by decide +kernel
theorem dX3_init_19 : decode cX3_init 19 = .ok (.putfield 19, 3) := by decide +kernel
theorem dX3_init_22 : decode cX3_init 22 = .ok (.aload_n 0, 1) := by decide +kernel
theorem dX3_init_23 : decode cX3_init 23 = .ok (.iconst 0, 1) := by decide +kernel
theorem dX3_init_24 : decode cX3_init 24 = .ok (.putfield 22, 3) := by decide +kernel
theorem dX3_init_27 : decode cX3_init 27 = .ok (.aload_n 0, 1) := by decide +kernel
theorem dX3_init_28 : decode cX3_init 28 = .ok (.iconst 0, 1) := by decide +kernel
theorem dX3_init_29 : decode cX3_init 29 = .ok (.putfield 25, 3) := by decide +kernel
theorem dX3_init_32 : decode cX3_init 32 = .ok (.aload_n 0, 1) := by decide +kernel
theorem dX3_init_33 : decode cX3_init 33 = .ok (.bipush 6, 2) := by decide +kernel
theorem dX3_init_35 : decode cX3_init 35 = .ok (.newarray .int, 2) := by decide +kernel
theorem dX3_init_37 : decode cX3_init 37 = .ok (.putfield 28, 3) := by decide +kernel
theorem dX3_init_40 : decode cX3_init 40 = .ok (.return_, 1) := by decide +kernel
set_option maxRecDepth 20000 in
theorem ggX3_append_X4_setCell : GoodIn wsX3_append wsX4_setCell := goodIn_r _ [5] (by decide +kernel) (by decide +kernel)
set_option maxRecDepth 20000 in
theorem gX3_append_X4_setCell_n31 : GoodIn wsX3_append (wsX4_setCell) := ggX3_append_X4_setCell
theorem dX3_append_0 : decode cX3_append 0 = .ok (.aload_n 0, 1) := by decide +kernel
theorem dX3_append_1 : decode cX3_append 1 = .ok (.getfield 9, 3) := by decide +kernel
theorem dX3_append_4 : decode cX3_append 4 = .ok (.aload_n 0, 1) := by decide +kernel
theorem dX3_append_5 : decode cX3_append 5 = .ok (.getfield 15, 3) := by decide +kernel
theorem dX3_append_8 : decode cX3_append 8 = .ok (.iload_n 1, 1) := by decide +kernel
theorem dX3_append_9 : decode cX3_append 9 = .ok (.invokestatic 31, 3) := by decide +kernel
theorem dX3_append_12 : decode cX3_append 12 = .ok (.aload_n 0, 1) := by decide +kernel
theorem dX3_append_13 : decode cX3_append 13 = .ok (.dup, 1) := by decide +kernel
theorem dX3_append_14 : decode cX3_append 14 = .ok (.getfield 15, 3) := by decide +kernel
theorem dX3_append_17 : decode cX3_append 17 = .ok (.iconst 1, 1) := by decide +kernel
theorem dX3_append_18 : decode cX3_append 18 = .ok (.iadd, 1) := by decide +kernel
theorem dX3_append_19 : decode cX3_append 19 = .ok (.putfield 15, 3) := by decide +kernel
theorem dX3_append_22 : decode cX3_append 22 = .ok (.return_, 1) := by decide +kernel
set_option maxRecDepth 20000 in
theorem ggX3_findFault_X3_digitAt : GoodIn wsX3_findFault wsX3_digitAt := goodIn_r _ [7, 8, 9, 10, 6, 11, 12, 13, 14, 15, 16, 39, 40, 41, 42, 43, 44] (by decide +kernel) (by decide +kernel)
set_option maxRecDepth 20000 in
theorem gX3_findFault_X3_digitAt : GoodIn wsX3_findFault (wsV RX3 35 RX3 yX3_digitAt wsX3_digitAt) := goodIn_app (goodIn_of _ (by decide +kernel)) ggX3_findFault_X3_digitAt
set_option maxRecDepth 20000 in
theorem ggX3_findFault_X4_isScene : GoodIn wsX3_findFault wsX4_isScene := goodIn_r _ [18] (by decide +kernel) (by decide +kernel)
set_option maxRecDepth 20000 in
theorem gX3_findFault_X4_isScene_n39 : GoodIn wsX3_findFault (wsX4_isScene) := ggX3_findFault_X4_isScene
set_option maxRecDepth 20000 in
theorem ggX3_findFault_X3_signAt : GoodIn wsX3_findFault wsX3_signAt := goodIn_r _ [11, 12, 13, 14, 15, 16, 39, 40, 41, 42, 43, 44] (by decide +kernel) (by decide +kernel)
set_option maxRecDepth 20000 in
theorem gX3_findFault_X3_signAt : GoodIn wsX3_findFault (wsV RX3 43 RX3 yX3_signAt wsX3_signAt) := goodIn_app (goodIn_of _ (by decide +kernel)) ggX3_findFault_X3_signAt
set_option maxRecDepth 20000 in
theorem ggX3_findFault_X3_findFaultInEvents : GoodIn wsX3_findFault wsX3_findFaultInEvents := goodIn_r _ [22, 23, 12, 24, 8, 9, 10, 6, 11, 13, 14, 15, 16, 25, 26, 27, 28, 29, 30, 31, 32, 33, 34, 3, 4, 5, 7, 35, 36, 37, 38, 39, 40, 41, 42, 43, 44] (by decide +kernel) (by decide +kernel)
set_option maxRecDepth 20000 in
theorem gX3_findFault_X3_findFaultInEvents : GoodIn wsX3_findFault (wsV RX3 46 RX3 yX3_findFaultInEvents wsX3_findFaultInEvents) := goodIn_app (goodIn_of _ (by decide +kernel)) ggX3_findFault_X3_findFaultInEvents
theorem dX3_findFault_0 : decode cX3_findFault 0 = .ok (.aload_n 0, 1) := by decide +kernel
theorem dX3_findFault_1 : decode cX3_findFault 1 = .ok (.aload_n 0, 1) := by decide +kernel
theorem dX3_findFault_2 : decode cX3_findFault 2 = .ok (.iconst 0, 1) := by decide +kernel
theorem dX3_findFault_3 : decode cX3_findFault 3 = .ok (.invokevirtual 35, 3) := by decide +kernel
theorem dX3_findFault_6 : decode cX3_findFault 6 = .ok (.putfield 19, 3) := by decide +kernel
theorem dX3_findFault_9 : decode cX3_findFault 9 = .ok (.aload_n 0, 1) := by decide +kernel
theorem dX3_findFault_10 : decode cX3_findFault 10 = .ok (.getfield 19, 3) := by decide +kernel
theorem dX3_findFault_13 : decode cX3_findFault 13 = .ok (.invokestatic 39, 3) := by decide +kernel
theorem dX3_findFault_16 : decode cX3_findFault 16 = .ok (.ifCond .ne 5, 3) := by decide +kernel
theorem dX3_findFault_19 : decode cX3_findFault 19 = .ok (.iconst 0, 1) := by decide +kernel
theorem dX3_findFault_20 : decode cX3_findFault 20 = .ok (.ireturn, 1) := by decide +kernel
theorem dX3_findFault_21 : decode cX3_findFault 21 = .ok (.aload_n 0, 1) := by decide +kernel
theorem dX3_findFault_22 : decode cX3_findFault 22 = .ok (.iconst 1, 1) := by decide +kernel
theorem dX3_findFault_23 : decode cX3_findFault 23 = .ok (.invokevirtual 43, 3) := by decide +kernel
theorem dX3_findFault_26 : decode cX3_findFault 26 = .ok (.bipush 47, 2) := by decide +kernel
theorem dX3_findFault_28 : decode cX3_findFault 28 = .ok (.if_icmp .eq 5, 3) := by decide +kernel
theorem dX3_findFault_31 : decode cX3_findFault 31 = .ok (.iconst 1, 1) := by decide +kernel
theorem dX3_findFault_32 : decode cX3_findFault 32 = .ok (.ireturn, 1) := by decide +kernel
theorem dX3_findFault_33 : decode cX3_findFault 33 = .ok (.aload_n 0, 1) := by decide +kernel
theorem dX3_findFault_34 : decode cX3_findFault 34 = .ok (.aload_n 0, 1) := by decide +kernel
theorem dX3_findFault_35 : decode cX3_findFault 35 = .ok (.iconst 2, 1) := by decide +kernel
theorem dX3_findFault_36 : decode cX3_findFault 36 = .ok (.invokevirtual 35, 3) := by decide +kernel
theorem dX3_findFault_39 : decode cX3_findFault 39 = .ok (.putfield 22, 3) := by decide +kernel
theorem dX3_findFault_42 : decode cX3_findFault 42 = .ok (.aload_n 0, 1) := by decide +kernel
theorem dX3_findFault_43 : decode cX3_findFault 43 = .ok (.getfield 22, 3) := by decide +kernel
theorem dX3_findFault_46 : decode cX3_findFault 46 = .ok (.iconst 1, 1) := by decide +kernel
theorem dX3_findFault_47 : decode cX3_findFault 47 = .ok (.if_icmp .ge 5, 3) := by decide +kernel
theorem dX3_findFault_50 : decode cX3_findFault 50 = .ok (.iconst 2, 1) := by decide +kernel
theorem dX3_findFault_51 : decode cX3_findFault 51 = .ok (.ireturn, 1) := by decide +kernel
theorem dX3_findFault_52 : decode cX3_findFault 52 = .ok (.aload_n 0, 1) := by decide +kernel
theorem dX3_findFault_53 : decode cX3_findFault 53 = .ok (.iconst 3, 1) := by decide +kernel
theorem dX3_findFault_54 : decode cX3_findFault 54 = .ok (.invokevirtual 35, 3) := by decide +kernel
theorem dX3_findFault_57 : decode cX3_findFault 57 = .ok (.istore_n 1, 1) := by decide +kernel
theorem dX3_findFault_58 : decode cX3_findFault 58 = .ok (.iload_n 1, 1) := by decide +kernel
theorem dX3_findFault_59 : decode cX3_findFault 59 = .ok (.iconst (-1), 1) := by decide +kernel
theorem dX3_findFault_60 : decode cX3_findFault 60 = .ok (.if_icmp .ne 9, 3) := by decide +kernel
theorem dX3_findFault_63 : decode cX3_findFault 63 = .ok (.aload_n 0, 1) := by decide +kernel
theorem dX3_findFault_64 : decode cX3_findFault 64 = .ok (.iconst 3, 1) := by decide +kernel
theorem dX3_findFault_65 : decode cX3_findFault 65 = .ok (.invokevirtual 46, 3) := by decide +kernel
theorem dX3_findFault_68 : decode cX3_findFault 68 = .ok (.ireturn, 1) := by decide +kernel
theorem dX3_findFault_69 : decode cX3_findFault 69 = .ok (.aload_n 0, 1) := by decide +kernel
theorem dX3_findFault_70 : decode cX3_findFault 70 = .ok (.aload_n 0, 1) := by decide +kernel
theorem dX3_findFault_71 : decode cX3_findFault 71 = .ok (.getfield 22, 3) := by decide +kernel
theorem dX3_findFault_74 : decode cX3_findFault 74 = .ok (.bipush 10, 2) := by decide +kernel
theorem dX3_findFault_76 : decode cX3_findFault 76 = .ok (.imul, 1) := by decide +kernel
theorem dX3_findFault_77 : decode cX3_findFault 77 = .ok (.iload_n 1, 1) := by decide +kernel
theorem dX3_findFault_78 : decode cX3_findFault 78 = .ok (.iadd, 1) := by decide +kernel
theorem dX3_findFault_79 : decode cX3_findFault 79 = .ok (.putfield 22, 3) := by decide +kernel
theorem dX3_findFault_82 : decode cX3_findFault 82 = .ok (.aload_n 0, 1) := by decide +kernel
theorem dX3_findFault_83 : decode cX3_findFault 83 = .ok (.iconst 4, 1) := by decide +kernel
theorem dX3_findFault_84 : decode cX3_findFault 84 = .ok (.invokevirtual 46, 3) := by decide +kernel
theorem dX3_findFault_87 : decode cX3_findFault 87 = .ok (.ireturn, 1) := by decide +kernel
set_option maxRecDepth 20000 in
theorem ggX3_findFaultInEvents_X3_signAt : GoodIn wsX3_findFaultInEvents wsX3_signAt := goodIn_r _ [8, 2, 9, 10, 11, 12, 31, 32, 33, 34, 35, 36] (by decide +kernel) (by decide +kernel)
set_option maxRecDepth 20000 in
theorem gX3_findFaultInEvents_X3_signAt : GoodIn wsX3_findFaultInEvents (wsV RX3 43 RX3 yX3_signAt wsX3_signAt) := goodIn_app (goodIn_of _ (by decide +kernel)) ggX3_findFaultInEvents_X3_signAt
set_option maxRecDepth 20000 in
theorem ggX3_findFaultInEvents_X3_characterAt : GoodIn wsX3_findFaultInEvents wsX3_characterAt := goodIn_r _ [16, 4, 5, 6, 7, 8, 2, 9, 10, 11, 12, 31, 32, 33, 34, 35, 36] (by decide +kernel) (by decide +kernel)
set_option maxRecDepth 20000 in
theorem gX3_findFaultInEvents_X3_characterAt : GoodIn wsX3_findFaultInEvents (wsV RX3 49 RX3 yX3_characterAt wsX3_characterAt) := goodIn_app (goodIn_of _ (by decide +kernel)) ggX3_findFaultInEvents_X3_characterAt
set_option maxRecDepth 20000 in
theorem ggX3_findFaultInEvents_X3_kindAt : GoodIn wsX3_findFaultInEvents wsX3_kindAt := goodIn_r _ [20, 4, 5, 6, 7, 8, 2, 9, 10, 11, 12, 31, 32, 33, 34, 35, 36] (by decide +kernel) (by decide +kernel)
set_option maxRecDepth 20000 in
theorem gX3_findFaultInEvents_X3_kindAt : GoodIn wsX3_findFaultInEvents (wsV RX3 52 RX3 yX3_kindAt wsX3_kindAt) := goodIn_app (goodIn_of _ (by decide +kernel)) ggX3_findFaultInEvents_X3_kindAt
set_option maxRecDepth 20000 in
theorem ggX3_findFaultInEvents_X4_takesProp : GoodIn wsX3_findFaultInEvents wsX4_takesProp := goodIn_r _ [22] (by decide +kernel) (by decide +kernel)
set_option maxRecDepth 20000 in
theorem gX3_findFaultInEvents_X4_takesProp_n55 : GoodIn wsX3_findFaultInEvents (wsX4_takesProp) := ggX3_findFaultInEvents_X4_takesProp
set_option maxRecDepth 20000 in
theorem ggX3_findFaultInEvents_X3_digitAt : GoodIn wsX3_findFaultInEvents wsX3_digitAt := goodIn_r _ [26, 4, 5, 6, 7, 8, 2, 9, 10, 11, 12, 31, 32, 33, 34, 35, 36] (by decide +kernel) (by decide +kernel)
set_option maxRecDepth 20000 in
theorem gX3_findFaultInEvents_X3_digitAt : GoodIn wsX3_findFaultInEvents (wsV RX3 35 RX3 yX3_digitAt wsX3_digitAt) := goodIn_app (goodIn_of _ (by decide +kernel)) ggX3_findFaultInEvents_X3_digitAt
set_option maxRecDepth 20000 in
theorem ggX3_findFaultInEvents_X4_codeOf : GoodIn wsX3_findFaultInEvents wsX4_codeOf := goodIn_r _ [28] (by decide +kernel) (by decide +kernel)
set_option maxRecDepth 20000 in
theorem gX3_findFaultInEvents_X4_codeOf_n58 : GoodIn wsX3_findFaultInEvents (wsX4_codeOf) := ggX3_findFaultInEvents_X4_codeOf
set_option maxRecDepth 20000 in
theorem ggX3_findFaultInEvents_X4_setCell : GoodIn wsX3_findFaultInEvents wsX4_setCell := goodIn_r _ [30] (by decide +kernel) (by decide +kernel)
set_option maxRecDepth 20000 in
theorem gX3_findFaultInEvents_X4_setCell_n31 : GoodIn wsX3_findFaultInEvents (wsX4_setCell) := ggX3_findFaultInEvents_X4_setCell
theorem dX3_findFaultInEvents_0 : decode cX3_findFaultInEvents 0 = .ok (.iload_n 1, 1) := by decide +kernel
theorem dX3_findFaultInEvents_1 : decode cX3_findFaultInEvents 1 = .ok (.istore_n 2, 1) := by decide +kernel
theorem dX3_findFaultInEvents_2 : decode cX3_findFaultInEvents 2 = .ok (.aload_n 0, 1) := by decide +kernel
theorem dX3_findFaultInEvents_3 : decode cX3_findFaultInEvents 3 = .ok (.iconst 0, 1) := by decide +kernel
theorem dX3_findFaultInEvents_4 : decode cX3_findFaultInEvents 4 = .ok (.putfield 25, 3) := by decide +kernel
theorem dX3_findFaultInEvents_7 : decode cX3_findFaultInEvents 7 = .ok (.iconst 0, 1) := by decide +kernel
theorem dX3_findFaultInEvents_8 : decode cX3_findFaultInEvents 8 = .ok (.istore_n 3, 1) := by decide +kernel
theorem dX3_findFaultInEvents_9 : decode cX3_findFaultInEvents 9 = .ok (.iload_n 3, 1) := by decide +kernel
theorem dX3_findFaultInEvents_10 : decode cX3_findFaultInEvents 10 = .ok (.bipush 6, 2) := by decide +kernel
theorem dX3_findFaultInEvents_12 : decode cX3_findFaultInEvents 12 = .ok (.if_icmp .ge 141, 3) := by decide +kernel
theorem dX3_findFaultInEvents_15 : decode cX3_findFaultInEvents 15 = .ok (.iload_n 2, 1) := by decide +kernel
theorem dX3_findFaultInEvents_16 : decode cX3_findFaultInEvents 16 = .ok (.aload_n 0, 1) := by decide +kernel
theorem dX3_findFaultInEvents_17 : decode cX3_findFaultInEvents 17 = .ok (.getfield 15, 3) := by decide +kernel
theorem dX3_findFaultInEvents_20 : decode cX3_findFaultInEvents 20 = .ok (.if_icmp .ge 133, 3) := by decide +kernel
theorem dX3_findFaultInEvents_23 : decode cX3_findFaultInEvents 23 = .ok (.aload_n 0, 1) := by decide +kernel
theorem dX3_findFaultInEvents_24 : decode cX3_findFaultInEvents 24 = .ok (.iload_n 2, 1) := by decide +kernel
theorem dX3_findFaultInEvents_25 : decode cX3_findFaultInEvents 25 = .ok (.invokevirtual 43, 3) := by decide +kernel
theorem dX3_findFaultInEvents_28 : decode cX3_findFaultInEvents 28 = .ok (.bipush 44, 2) := by decide +kernel
theorem dX3_findFaultInEvents_30 : decode cX3_findFaultInEvents 30 = .ok (.if_icmp .eq 5, 3) := by decide +kernel
theorem dX3_findFaultInEvents_33 : decode cX3_findFaultInEvents 33 = .ok (.iload_n 2, 1) := by decide +kernel
theorem dX3_findFaultInEvents_34 : decode cX3_findFaultInEvents 34 = .ok (.ireturn, 1) := by decide +kernel
theorem dX3_findFaultInEvents_35 : decode cX3_findFaultInEvents 35 = .ok (.aload_n 0, 1) := by decide +kernel
theorem dX3_findFaultInEvents_36 : decode cX3_findFaultInEvents 36 = .ok (.iload_n 2, 1) := by decide +kernel
theorem dX3_findFaultInEvents_37 : decode cX3_findFaultInEvents 37 = .ok (.iconst 1, 1) := by decide +kernel
theorem dX3_findFaultInEvents_38 : decode cX3_findFaultInEvents 38 = .ok (.iadd, 1) := by decide +kernel
theorem dX3_findFaultInEvents_39 : decode cX3_findFaultInEvents 39 = .ok (.invokevirtual 49, 3) := by decide +kernel
theorem dX3_findFaultInEvents_42 : decode cX3_findFaultInEvents 42 = .ok (.istore 4, 2) := by decide +kernel
theorem dX3_findFaultInEvents_44 : decode cX3_findFaultInEvents 44 = .ok (.iload 4, 2) := by decide +kernel
theorem dX3_findFaultInEvents_46 : decode cX3_findFaultInEvents 46 = .ok (.iconst (-1), 1) := by decide +kernel
theorem dX3_findFaultInEvents_47 : decode cX3_findFaultInEvents 47 = .ok (.if_icmp .ne 7, 3) := by decide +kernel
theorem dX3_findFaultInEvents_50 : decode cX3_findFaultInEvents 50 = .ok (.iload_n 2, 1) := by decide +kernel
theorem dX3_findFaultInEvents_51 : decode cX3_findFaultInEvents 51 = .ok (.iconst 1, 1) := by decide +kernel
theorem dX3_findFaultInEvents_52 : decode cX3_findFaultInEvents 52 = .ok (.iadd, 1) := by decide +kernel
theorem dX3_findFaultInEvents_53 : decode cX3_findFaultInEvents 53 = .ok (.ireturn, 1) := by decide +kernel
theorem dX3_findFaultInEvents_54 : decode cX3_findFaultInEvents 54 = .ok (.aload_n 0, 1) := by decide +kernel
theorem dX3_findFaultInEvents_55 : decode cX3_findFaultInEvents 55 = .ok (.iload_n 2, 1) := by decide +kernel
theorem dX3_findFaultInEvents_56 : decode cX3_findFaultInEvents 56 = .ok (.iconst 2, 1) := by decide +kernel
theorem dX3_findFaultInEvents_57 : decode cX3_findFaultInEvents 57 = .ok (.iadd, 1) := by decide +kernel
theorem dX3_findFaultInEvents_58 : decode cX3_findFaultInEvents 58 = .ok (.invokevirtual 52, 3) := by decide +kernel
theorem dX3_findFaultInEvents_61 : decode cX3_findFaultInEvents 61 = .ok (.istore 5, 2) := by decide +kernel
theorem dX3_findFaultInEvents_63 : decode cX3_findFaultInEvents 63 = .ok (.iload 5, 2) := by decide +kernel
theorem dX3_findFaultInEvents_65 : decode cX3_findFaultInEvents 65 = .ok (.iconst (-1), 1) := by decide +kernel
theorem dX3_findFaultInEvents_66 : decode cX3_findFaultInEvents 66 = .ok (.if_icmp .ne 7, 3) := by decide +kernel
theorem dX3_findFaultInEvents_69 : decode cX3_findFaultInEvents 69 = .ok (.iload_n 2, 1) := by decide +kernel
theorem dX3_findFaultInEvents_70 : decode cX3_findFaultInEvents 70 = .ok (.iconst 2, 1) := by decide +kernel
theorem dX3_findFaultInEvents_71 : decode cX3_findFaultInEvents 71 = .ok (.iadd, 1) := by decide +kernel
theorem dX3_findFaultInEvents_72 : decode cX3_findFaultInEvents 72 = .ok (.ireturn, 1) := by decide +kernel
theorem dX3_findFaultInEvents_73 : decode cX3_findFaultInEvents 73 = .ok (.iload 5, 2) := by decide +kernel
theorem dX3_findFaultInEvents_75 : decode cX3_findFaultInEvents 75 = .ok (.invokestatic 55, 3) := by decide +kernel
theorem dX3_findFaultInEvents_78 : decode cX3_findFaultInEvents 78 = .ok (.ifCond .eq 13, 3) := by decide +kernel
theorem dX3_findFaultInEvents_81 : decode cX3_findFaultInEvents 81 = .ok (.aload_n 0, 1) := by decide +kernel
theorem dX3_findFaultInEvents_82 : decode cX3_findFaultInEvents 82 = .ok (.iload_n 2, 1) := by decide +kernel
theorem dX3_findFaultInEvents_83 : decode cX3_findFaultInEvents 83 = .ok (.iconst 3, 1) := by decide +kernel
theorem dX3_findFaultInEvents_84 : decode cX3_findFaultInEvents 84 = .ok (.iadd, 1) := by decide +kernel
theorem dX3_findFaultInEvents_85 : decode cX3_findFaultInEvents 85 = .ok (.invokevirtual 35, 3) := by decide +kernel
theorem dX3_findFaultInEvents_88 : decode cX3_findFaultInEvents 88 = .ok (.goto 4, 3) := by decide +kernel
theorem dX3_findFaultInEvents_91 : decode cX3_findFaultInEvents 91 = .ok (.iconst 0, 1) := by decide +kernel
theorem dX3_findFaultInEvents_92 : decode cX3_findFaultInEvents 92 = .ok (.istore 6, 2) := by decide +kernel
theorem dX3_findFaultInEvents_94 : decode cX3_findFaultInEvents 94 = .ok (.iload 6, 2) := by decide +kernel
theorem dX3_findFaultInEvents_96 : decode cX3_findFaultInEvents 96 = .ok (.iconst (-1), 1) := by decide +kernel
theorem dX3_findFaultInEvents_97 : decode cX3_findFaultInEvents 97 = .ok (.if_icmp .ne 7, 3) := by decide +kernel
theorem dX3_findFaultInEvents_100 : decode cX3_findFaultInEvents 100 = .ok (.iload_n 2, 1) := by decide +kernel
theorem dX3_findFaultInEvents_101 : decode cX3_findFaultInEvents 101 = .ok (.iconst 3, 1) := by decide +kernel
theorem dX3_findFaultInEvents_102 : decode cX3_findFaultInEvents 102 = .ok (.iadd, 1) := by decide +kernel
theorem dX3_findFaultInEvents_103 : decode cX3_findFaultInEvents 103 = .ok (.ireturn, 1) := by decide +kernel
theorem dX3_findFaultInEvents_104 : decode cX3_findFaultInEvents 104 = .ok (.aload_n 0, 1) := by decide +kernel
theorem dX3_findFaultInEvents_105 : decode cX3_findFaultInEvents 105 = .ok (.getfield 28, 3) := by decide +kernel
theorem dX3_findFaultInEvents_108 : decode cX3_findFaultInEvents 108 = .ok (.iload_n 3, 1) := by decide +kernel
theorem dX3_findFaultInEvents_109 : decode cX3_findFaultInEvents 109 = .ok (.iload 4, 2) := by decide +kernel
theorem dX3_findFaultInEvents_111 : decode cX3_findFaultInEvents 111 = .ok (.iload 5, 2) := by decide +kernel
theorem dX3_findFaultInEvents_113 : decode cX3_findFaultInEvents 113 = .ok (.iload 6, 2) := by decide +kernel
theorem dX3_findFaultInEvents_115 : decode cX3_findFaultInEvents 115 = .ok (.invokestatic 58, 3) := by decide +kernel
theorem dX3_findFaultInEvents_118 : decode cX3_findFaultInEvents 118 = .ok (.invokestatic 31, 3) := by decide +kernel
theorem dX3_findFaultInEvents_121 : decode cX3_findFaultInEvents 121 = .ok (.aload_n 0, 1) := by decide +kernel
theorem dX3_findFaultInEvents_122 : decode cX3_findFaultInEvents 122 = .ok (.dup, 1) := by decide +kernel
theorem dX3_findFaultInEvents_123 : decode cX3_findFaultInEvents 123 = .ok (.getfield 25, 3) := by decide +kernel
theorem dX3_findFaultInEvents_126 : decode cX3_findFaultInEvents 126 = .ok (.iconst 1, 1) := by decide +kernel
theorem dX3_findFaultInEvents_127 : decode cX3_findFaultInEvents 127 = .ok (.iadd, 1) := by decide +kernel
theorem dX3_findFaultInEvents_128 : decode cX3_findFaultInEvents 128 = .ok (.putfield 25, 3) := by decide +kernel
theorem dX3_findFaultInEvents_131 : decode cX3_findFaultInEvents 131 = .ok (.iload_n 2, 1) := by decide +kernel
theorem dX3_findFaultInEvents_132 : decode cX3_findFaultInEvents 132 = .ok (.iload 5, 2) := by decide +kernel
theorem dX3_findFaultInEvents_134 : decode cX3_findFaultInEvents 134 = .ok (.invokestatic 55, 3) := by decide +kernel
theorem dX3_findFaultInEvents_137 : decode cX3_findFaultInEvents 137 = .ok (.ifCond .eq 7, 3) := by decide +kernel
theorem dX3_findFaultInEvents_140 : decode cX3_findFaultInEvents 140 = .ok (.iconst 4, 1) := by decide +kernel
theorem dX3_findFaultInEvents_141 : decode cX3_findFaultInEvents 141 = .ok (.goto 4, 3) := by decide +kernel
theorem dX3_findFaultInEvents_144 : decode cX3_findFaultInEvents 144 = .ok (.iconst 3, 1) := by decide +kernel
theorem dX3_findFaultInEvents_145 : decode cX3_findFaultInEvents 145 = .ok (.iadd, 1) := by decide +kernel
theorem dX3_findFaultInEvents_146 : decode cX3_findFaultInEvents 146 = .ok (.istore_n 2, 1) := by decide +kernel
theorem dX3_findFaultInEvents_147 : decode cX3_findFaultInEvents 147 = .ok (.iinc 3 1, 3) := by decide +kernel
theorem dX3_findFaultInEvents_150 : decode cX3_findFaultInEvents 150 = .ok (.goto (-141), 3) := by decide +kernel
theorem dX3_findFaultInEvents_153 : decode cX3_findFaultInEvents 153 = .ok (.iload_n 2, 1) := by decide +kernel
theorem dX3_findFaultInEvents_154 : decode cX3_findFaultInEvents 154 = .ok (.aload_n 0, 1) := by decide +kernel
theorem dX3_findFaultInEvents_155 : decode cX3_findFaultInEvents 155 = .ok (.getfield 15, 3) := by decide +kernel
theorem dX3_findFaultInEvents_158 : decode cX3_findFaultInEvents 158 = .ok (.if_icmp .ge 7, 3) := by decide +kernel
theorem dX3_findFaultInEvents_161 : decode cX3_findFaultInEvents 161 = .ok (.iload_n 2, 1) := by decide +kernel
theorem dX3_findFaultInEvents_162 : decode cX3_findFaultInEvents 162 = .ok (.goto 4, 3) := by decide +kernel
theorem dX3_findFaultInEvents_165 : decode cX3_findFaultInEvents 165 = .ok (.iconst (-1), 1) := by decide +kernel
theorem dX3_findFaultInEvents_166 : decode cX3_findFaultInEvents 166 = .ok (.ireturn, 1) := by decide +kernel
set_option maxRecDepth 20000 in
theorem ggX3_signAt_X4_cell : GoodIn wsX3_signAt wsX4_cell := goodIn_r _ [5] (by decide +kernel) (by decide +kernel)
set_option maxRecDepth 20000 in
theorem gX3_signAt_X4_cell_n62 : GoodIn wsX3_signAt (wsX4_cell) := ggX3_signAt_X4_cell
theorem dX3_signAt_0 : decode cX3_signAt 0 = .ok (.iload_n 1, 1) := by decide +kernel
theorem dX3_signAt_1 : decode cX3_signAt 1 = .ok (.aload_n 0, 1) := by decide +kernel
theorem dX3_signAt_2 : decode cX3_signAt 2 = .ok (.getfield 15, 3) := by decide +kernel
theorem dX3_signAt_5 : decode cX3_signAt 5 = .ok (.if_icmp .ge 14, 3) := by decide +kernel
theorem dX3_signAt_8 : decode cX3_signAt 8 = .ok (.aload_n 0, 1) := by decide +kernel
theorem dX3_signAt_9 : decode cX3_signAt 9 = .ok (.getfield 9, 3) := by decide +kernel
theorem dX3_signAt_12 : decode cX3_signAt 12 = .ok (.iload_n 1, 1) := by decide +kernel
theorem dX3_signAt_13 : decode cX3_signAt 13 = .ok (.invokestatic 62, 3) := by decide +kernel
theorem dX3_signAt_16 : decode cX3_signAt 16 = .ok (.goto 4, 3) := by decide +kernel
theorem dX3_signAt_19 : decode cX3_signAt 19 = .ok (.iconst (-1), 1) := by decide +kernel
theorem dX3_signAt_20 : decode cX3_signAt 20 = .ok (.ireturn, 1) := by decide +kernel
set_option maxRecDepth 20000 in
theorem ggX3_digitAt_X3_signAt : GoodIn wsX3_digitAt wsX3_signAt := goodIn_r _ [5, 6, 7, 8, 9, 10, 11, 12, 13, 14, 15, 16] (by decide +kernel) (by decide +kernel)
set_option maxRecDepth 20000 in
theorem gX3_digitAt_X3_signAt : GoodIn wsX3_digitAt (wsV RX3 43 RX3 yX3_signAt wsX3_signAt) := goodIn_app (goodIn_of _ (by decide +kernel)) ggX3_digitAt_X3_signAt
theorem dX3_digitAt_0 : decode cX3_digitAt 0 = .ok (.aload_n 0, 1) := by decide +kernel
theorem dX3_digitAt_1 : decode cX3_digitAt 1 = .ok (.iload_n 1, 1) := by decide +kernel
theorem dX3_digitAt_2 : decode cX3_digitAt 2 = .ok (.invokevirtual 43, 3) := by decide +kernel
theorem dX3_digitAt_5 : decode cX3_digitAt 5 = .ok (.istore_n 2, 1) := by decide +kernel
theorem dX3_digitAt_6 : decode cX3_digitAt 6 = .ok (.iload_n 2, 1) := by decide +kernel
theorem dX3_digitAt_7 : decode cX3_digitAt 7 = .ok (.bipush 48, 2) := by decide +kernel
theorem dX3_digitAt_9 : decode cX3_digitAt 9 = .ok (.if_icmp .lt 16, 3) := by decide +kernel
theorem dX3_digitAt_12 : decode cX3_digitAt 12 = .ok (.iload_n 2, 1) := by decide +kernel
theorem dX3_digitAt_13 : decode cX3_digitAt 13 = .ok (.bipush 57, 2) := by decide +kernel
theorem dX3_digitAt_15 : decode cX3_digitAt 15 = .ok (.if_icmp .gt 10, 3) := by decide +kernel
theorem dX3_digitAt_18 : decode cX3_digitAt 18 = .ok (.iload_n 2, 1) := by decide +kernel
theorem dX3_digitAt_19 : decode cX3_digitAt 19 = .ok (.bipush 48, 2) := by decide +kernel
theorem dX3_digitAt_21 : decode cX3_digitAt 21 = .ok (.isub, 1) := by decide +kernel
theorem dX3_digitAt_22 : decode cX3_digitAt 22 = .ok (.goto 4, 3) := by decide +kernel
theorem dX3_digitAt_25 : decode cX3_digitAt 25 = .ok (.iconst (-1), 1) := by decide +kernel
theorem dX3_digitAt_26 : decode cX3_digitAt 26 = .ok (.ireturn, 1) := by decide +kernel
set_option maxRecDepth 20000 in
theorem ggX3_characterAt_X3_signAt : GoodIn wsX3_characterAt wsX3_signAt := goodIn_r _ [5, 6, 7, 8, 9, 10, 11, 12, 13, 14, 15, 16] (by decide +kernel) (by decide +kernel)
set_option maxRecDepth 20000 in
theorem gX3_characterAt_X3_signAt : GoodIn wsX3_characterAt (wsV RX3 43 RX3 yX3_signAt wsX3_signAt) := goodIn_app (goodIn_of _ (by decide +kernel)) ggX3_characterAt_X3_signAt
theorem dX3_characterAt_0 : decode cX3_characterAt 0 = .ok (.aload_n 0, 1) := by decide +kernel
theorem dX3_characterAt_1 : decode cX3_characterAt 1 = .ok (.iload_n 1, 1) := by decide +kernel
theorem dX3_characterAt_2 : decode cX3_characterAt 2 = .ok (.invokevirtual 43, 3) := by decide +kernel
theorem dX3_characterAt_5 : decode cX3_characterAt 5 = .ok (.istore_n 2, 1) := by decide +kernel
theorem dX3_characterAt_6 : decode cX3_characterAt 6 = .ok (.iload_n 2, 1) := by decide +kernel
theorem dX3_characterAt_7 : decode cX3_characterAt 7 = .ok (.bipush 65, 2) := by decide +kernel
theorem dX3_characterAt_9 : decode cX3_characterAt 9 = .ok (.if_icmp .lt 16, 3) := by decide +kernel
theorem dX3_characterAt_12 : decode cX3_characterAt 12 = .ok (.iload_n 2, 1) := by decide +kernel
theorem dX3_characterAt_13 : decode cX3_characterAt 13 = .ok (.bipush 69, 2) := by decide +kernel
theorem dX3_characterAt_15 : decode cX3_characterAt 15 = .ok (.if_icmp .ge 10, 3) := by decide +kernel
theorem dX3_characterAt_18 : decode cX3_characterAt 18 = .ok (.iload_n 2, 1) := by decide +kernel
theorem dX3_characterAt_19 : decode cX3_characterAt 19 = .ok (.bipush 65, 2) := by decide +kernel
theorem dX3_characterAt_21 : decode cX3_characterAt 21 = .ok (.isub, 1) := by decide +kernel
theorem dX3_characterAt_22 : decode cX3_characterAt 22 = .ok (.goto 4, 3) := by decide +kernel
theorem dX3_characterAt_25 : decode cX3_characterAt 25 = .ok (.iconst (-1), 1) := by decide +kernel
theorem dX3_characterAt_26 : decode cX3_characterAt 26 = .ok (.ireturn, 1) := by decide +kernel
set_option maxRecDepth 20000 in
theorem ggX3_kindAt_X3_signAt : GoodIn wsX3_kindAt wsX3_signAt := goodIn_r _ [5, 6, 7, 8, 9, 10, 11, 12, 13, 14, 15, 16] (by decide +kernel) (by decide +kernel)
set_option maxRecDepth 20000 in
theorem gX3_kindAt_X3_signAt : GoodIn wsX3_kindAt (wsV RX3 43 RX3 yX3_signAt wsX3_signAt) := goodIn_app (goodIn_of _ (by decide +kernel)) ggX3_kindAt_X3_signAt
theorem dX3_kindAt_0 : decode cX3_kindAt 0 = .ok (.aload_n 0, 1) := by decide +kernel
theorem dX3_kindAt_1 : decode cX3_kindAt 1 = .ok (.iload_n 1, 1) := by decide +kernel
theorem dX3_kindAt_2 : decode cX3_kindAt 2 = .ok (.invokevirtual 43, 3) := by decide +kernel
theorem dX3_kindAt_5 : decode cX3_kindAt 5 = .ok (.tableswitch 107 43 62 #[95, 107, 97, 105, 107, 107, 107, 107, 107, 107, 107, 107, 107, 107, 107, 107, 107, 103, 99, 101], 95) := by decide +kernel
theorem dX3_kindAt_100 : decode cX3_kindAt 100 = .ok (.iconst 0, 1) := by decide +kernel
theorem dX3_kindAt_101 : decode cX3_kindAt 101 = .ok (.ireturn, 1) := by decide +kernel
theorem dX3_kindAt_102 : decode cX3_kindAt 102 = .ok (.iconst 1, 1) := by decide +kernel
theorem dX3_kindAt_103 : decode cX3_kindAt 103 = .ok (.ireturn, 1) := by decide +kernel
theorem dX3_kindAt_104 : decode cX3_kindAt 104 = .ok (.iconst 2, 1) := by decide +kernel
theorem dX3_kindAt_105 : decode cX3_kindAt 105 = .ok (.ireturn, 1) := by decide +kernel
theorem dX3_kindAt_106 : decode cX3_kindAt 106 = .ok (.iconst 3, 1) := by decide +kernel
theorem dX3_kindAt_107 : decode cX3_kindAt 107 = .ok (.ireturn, 1) := by decide +kernel
theorem dX3_kindAt_108 : decode cX3_kindAt 108 = .ok (.iconst 4, 1) := by decide +kernel
theorem dX3_kindAt_109 : decode cX3_kindAt 109 = .ok (.ireturn, 1) := by decide +kernel
theorem dX3_kindAt_110 : decode cX3_kindAt 110 = .ok (.iconst 5, 1) := by decide +kernel
theorem dX3_kindAt_111 : decode cX3_kindAt 111 = .ok (.ireturn, 1) := by decide +kernel
theorem dX3_kindAt_112 : decode cX3_kindAt 112 = .ok (.iconst (-1), 1) := by decide +kernel
theorem dX3_kindAt_113 : decode cX3_kindAt 113 = .ok (.ireturn, 1) := by decide +kernel
set_option maxRecDepth 20000 in
theorem ggX4_init_X0_init : GoodIn wsX4_init wsX0_init := goodIn_r _ [24, 25, 2, 3, 26, 27, 28, 29, 30, 31, 32, 33, 34, 35, 36, 37, 38, 39, 40, 67, 68, 69, 70, 71, 72, 73, 74, 75] (by decide +kernel) (by decide +kernel)
set_option maxRecDepth 20000 in
theorem gX4_init_X0_init : GoodIn wsX4_init (wsX0_init) := ggX4_init_X0_init
set_option maxRecDepth 20000 in
theorem ggX4_init_X2_init : GoodIn wsX4_init wsX2_init := goodIn_r _ [43, 44, 2, 3, 45, 46, 47, 5, 6, 48, 23, 24, 25, 26, 27, 28, 29, 30, 31, 32, 33, 34, 35, 36, 37, 38, 39, 40, 82, 83, 67, 68, 69, 70, 71, 72, 73, 74, 75] (by decide +kernel) (by decide +kernel)
set_option maxRecDepth 20000 in
theorem gX4_init_X2_init : GoodIn wsX4_init (wsX2_init) := ggX4_init_X2_init
set_option maxRecDepth 20000 in
theorem ggX4_init_X3_init : GoodIn wsX4_init wsX3_init := goodIn_r _ [50, 51, 2, 3, 26, 52, 53, 54, 55, 56, 57, 84, 85, 86, 87, 88, 89] (by decide +kernel) (by decide +kernel)
set_option maxRecDepth 20000 in
theorem gX4_init_X3_init_n32 : GoodIn wsX4_init (wsX3_init) := ggX4_init_X3_init
set_option maxRecDepth 20000 in
theorem ggX4_init_X1_init : GoodIn wsX4_init wsX1_init := goodIn_r _ [59, 60, 2, 3, 26, 61, 62, 63, 64, 65, 66, 90, 91, 92, 93, 94, 95] (by decide +kernel) (by decide +kernel)
set_option maxRecDepth 20000 in
theorem gX4_init_X1_init_n39 : GoodIn wsX4_init (wsX1_init) := ggX4_init_X1_init
theorem dX4_init_0 : decode cX4_init 0 = .ok (.aload_n 0, 1) := by decide +kernel
theorem dX4_init_1 : decode cX4_init 1 = .ok (.invokespecial 3, 3) := by decide +kernel
theorem dX4_init_4 : decode cX4_init 4 = .ok (.aload_n 0, 1) := by decide +kernel
theorem dX4_init_5 : decode cX4_init 5 = .ok (.new 9, 3) := by decide +kernel
theorem dX4_init_8 : decode cX4_init 8 = .ok (.dup, 1) := by decide +kernel
theorem dX4_init_9 : decode cX4_init 9 = .ok (.invokespecial 11, 3) := by decide +kernel
theorem dX4_init_12 : decode cX4_init 12 = .ok (.putfield 12, 3) := by decide +kernel
theorem dX4_init_15 : decode cX4_init 15 = .ok (.aload_n 0, 1) := by decide +kernel
theorem dX4_init_16 : decode cX4_init 16 = .ok (.new 9, 3) := by decide +kernel
theorem dX4_init_19 : decode cX4_init 19 = .ok (.dup, 1) := by decide +kernel
theorem dX4_init_20 : decode cX4_init 20 = .ok (.invokespecial 11, 3) := by decide +kernel
theorem dX4_init_23 : decode cX4_init 23 = .ok (.putfield 16, 3) := by decide +kernel
theorem dX4_init_26 : decode cX4_init 26 = .ok (.aload_n 0, 1) := by decide +kernel
theorem dX4_init_27 : decode cX4_init 27 = .ok (.iconst 0, 1) := by decide +kernel
theorem dX4_init_28 : decode cX4_init 28 = .ok (.putfield 19, 3) := by decide +kernel
theorem dX4_init_31 : decode cX4_init 31 = .ok (.aload_n 0, 1) := by decide +kernel
theorem dX4_init_32 : decode cX4_init 32 = .ok (.new 23, 3) := by decide +kernel
theorem dX4_init_35 : decode cX4_init 35 = .ok (.dup, 1) := by decide +kernel
theorem dX4_init_36 : decode cX4_init 36 = .ok (.invokespecial 25, 3) := by decide +kernel
theorem dX4_init_39 : decode cX4_init 39 = .ok (.putfield 26, 3) := by decide +kernel
theorem dX4_init_42 : decode cX4_init 42 = .ok (.aload_n 0, 1) := by decide +kernel
theorem dX4_init_43 : decode cX4_init 43 = .ok (.new 30, 3) := by decide +kernel
theorem dX4_init_46 : decode cX4_init 46 = .ok (.dup, 1) := by decide +kernel
theorem dX4_init_47 : decode cX4_init 47 = .ok (.invokespecial 32, 3) := by decide +kernel
theorem dX4_init_50 : decode cX4_init 50 = .ok (.putfield 33, 3) := by decide +kernel
theorem dX4_init_53 : decode cX4_init 53 = .ok (.aload_n 0, 1) := by decide +kernel
theorem dX4_init_54 : decode cX4_init 54 = .ok (.new 37, 3) := by decide +kernel
theorem dX4_init_57 : decode cX4_init 57 = .ok (.dup, 1) := by decide +kernel
theorem dX4_init_58 : decode cX4_init 58 = .ok (.invokespecial 39, 3) := by decide +kernel
theorem dX4_init_61 : decode cX4_init 61 = .ok (.putfield 40, 3) := by decide +kernel
theorem dX4_init_64 : decode cX4_init 64 = .ok (.return_, 1) := by decide +kernel
set_option maxRecDepth 20000 in
theorem ggX4_putPanel_X3_findFault : GoodIn wsX4_putPanel wsX3_findFault := goodIn_r _ [8, 9, 10, 11, 12, 13, 7, 14, 15, 16, 17, 18, 19, 20, 21, 22, 23, 24, 25, 26, 27, 28, 29, 30, 31, 32, 33, 34, 35, 36, 37, 38, 39, 40, 41, 42, 43, 44, 45, 111, 112, 113, 114, 115, 116] (by decide +kernel) (by decide +kernel)
set_option maxRecDepth 20000 in
theorem gX4_putPanel_X3_findFault : GoodIn wsX4_putPanel (wsV RX4 44 RX3 yX3_findFault wsX3_findFault) := goodIn_app (goodIn_of _ (by decide +kernel)) ggX4_putPanel_X3_findFault
set_option maxRecDepth 20000 in
theorem ggX4_putPanel_X0_hasRoom : GoodIn wsX4_putPanel wsX0_hasRoom := goodIn_r _ [50, 51, 52, 117, 118, 119, 120, 121, 122, 123, 124, 125] (by decide +kernel) (by decide +kernel)
set_option maxRecDepth 20000 in
theorem gX4_putPanel_X0_hasRoom : GoodIn wsX4_putPanel (wsV RX4 48 RX0 yX0_hasRoom wsX0_hasRoom) := goodIn_app (goodIn_of _ (by decide +kernel)) ggX4_putPanel_X0_hasRoom
set_option maxRecDepth 20000 in
theorem ggX4_putPanel_X2_remember : GoodIn wsX4_putPanel wsX2_remember := goodIn_r _ [57, 58, 59, 60, 61, 56, 62, 63, 64, 65, 66, 67, 68, 69, 70, 49, 71, 72, 73, 74, 75, 76, 77, 78, 51, 52, 79, 22, 80, 126, 127, 117, 118, 119, 120, 121, 122, 123, 124, 125] (by decide +kernel) (by decide +kernel)
set_option maxRecDepth 20000 in
theorem gX4_putPanel_X2_remember : GoodIn wsX4_putPanel (wsV RX4 52 RX2 yX2_remember wsX2_remember) := goodIn_app (goodIn_of _ (by decide +kernel)) ggX4_putPanel_X2_remember
set_option maxRecDepth 20000 in
theorem ggX4_putPanel_X0_addPanel : GoodIn wsX4_putPanel wsX0_addPanel := goodIn_r _ [84, 52, 72, 85, 86, 87, 49, 88, 21, 22, 23, 44, 45, 89, 90, 91, 92, 74, 75, 76, 93, 94, 95, 96, 51, 73, 77, 97, 98, 99, 100, 101, 102, 103, 104, 78, 117, 118, 119, 120, 121, 122, 123, 124, 125, 111, 112, 113, 114, 115, 116] (by decide +kernel) (by decide +kernel)
set_option maxRecDepth 20000 in
theorem gX4_putPanel_X0_addPanel : GoodIn wsX4_putPanel (wsV RX4 56 RX0 yX0_addPanel wsX0_addPanel) := goodIn_app (goodIn_of _ (by decide +kernel)) ggX4_putPanel_X0_addPanel
theorem dX4_putPanel_0 : decode cX4_putPanel 0 = .ok (.aload_n 0, 1) := by decide +kernel
theorem dX4_putPanel_1 : decode cX4_putPanel 1 = .ok (.getfield 33, 3) := by decide +kernel
theorem dX4_putPanel_4 : decode cX4_putPanel 4 = .ok (.invokevirtual 44, 3) := by decide +kernel
theorem dX4_putPanel_7 : decode cX4_putPanel 7 = .ok (.istore_n 1, 1) := by decide +kernel
theorem dX4_putPanel_8 : decode cX4_putPanel 8 = .ok (.iload_n 1, 1) := by decide +kernel
theorem dX4_putPanel_9 : decode cX4_putPanel 9 = .ok (.iconst (-1), 1) := by decide +kernel
theorem dX4_putPanel_10 : decode cX4_putPanel 10 = .ok (.if_icmp .eq 8, 3) := by decide +kernel
theorem dX4_putPanel_13 : decode cX4_putPanel 13 = .ok (.bipush (-100), 2) := by decide +kernel
theorem dX4_putPanel_15 : decode cX4_putPanel 15 = .ok (.iload_n 1, 1) := by decide +kernel
theorem dX4_putPanel_16 : decode cX4_putPanel 16 = .ok (.isub, 1) := by decide +kernel
theorem dX4_putPanel_17 : decode cX4_putPanel 17 = .ok (.ireturn, 1) := by decide +kernel
theorem dX4_putPanel_18 : decode cX4_putPanel 18 = .ok (.aload_n 0, 1) := by decide +kernel
theorem dX4_putPanel_19 : decode cX4_putPanel 19 = .ok (.getfield 12, 3) := by decide +kernel
theorem dX4_putPanel_22 : decode cX4_putPanel 22 = .ok (.invokevirtual 48, 3) := by decide +kernel
theorem dX4_putPanel_25 : decode cX4_putPanel 25 = .ok (.ifCond .ne 6, 3) := by decide +kernel
theorem dX4_putPanel_28 : decode cX4_putPanel 28 = .ok (.bipush (-3), 2) := by decide +kernel
theorem dX4_putPanel_30 : decode cX4_putPanel 30 = .ok (.ireturn, 1) := by decide +kernel
theorem dX4_putPanel_31 : decode cX4_putPanel 31 = .ok (.aload_n 0, 1) := by decide +kernel
theorem dX4_putPanel_32 : decode cX4_putPanel 32 = .ok (.getfield 26, 3) := by decide +kernel
theorem dX4_putPanel_35 : decode cX4_putPanel 35 = .ok (.aload_n 0, 1) := by decide +kernel
theorem dX4_putPanel_36 : decode cX4_putPanel 36 = .ok (.getfield 12, 3) := by decide +kernel
theorem dX4_putPanel_39 : decode cX4_putPanel 39 = .ok (.invokevirtual 52, 3) := by decide +kernel
theorem dX4_putPanel_42 : decode cX4_putPanel 42 = .ok (.aload_n 0, 1) := by decide +kernel
theorem dX4_putPanel_43 : decode cX4_putPanel 43 = .ok (.getfield 12, 3) := by decide +kernel
theorem dX4_putPanel_46 : decode cX4_putPanel 46 = .ok (.aload_n 0, 1) := by decide +kernel
theorem dX4_putPanel_47 : decode cX4_putPanel 47 = .ok (.getfield 33, 3) := by decide +kernel
theorem dX4_putPanel_50 : decode cX4_putPanel 50 = .ok (.invokevirtual 56, 3) := by decide +kernel
theorem dX4_putPanel_53 : decode cX4_putPanel 53 = .ok (.ireturn, 1) := by decide +kernel
set_option maxRecDepth 20000 in
theorem ggX4_redraw_X0_slotOf : GoodIn wsX4_redraw wsX0_slotOf := goodIn_r _ [8, 9, 10, 11, 12, 123, 124, 125, 126, 127, 128, 129, 130, 131] (by decide +kernel) (by decide +kernel)
set_option maxRecDepth 20000 in
theorem gX4_redraw_X0_slotOf : GoodIn wsX4_redraw (wsV RX4 60 RX0 yX0_slotOf wsX0_slotOf) := goodIn_app (goodIn_of _ (by decide +kernel)) ggX4_redraw_X0_slotOf
set_option maxRecDepth 20000 in
theorem ggX4_redraw_X3_findFault : GoodIn wsX4_redraw wsX3_findFault := goodIn_r _ [17, 18, 19, 20, 21, 22, 16, 23, 24, 25, 26, 27, 28, 29, 10, 11, 12, 30, 31, 32, 33, 34, 35, 36, 37, 38, 39, 40, 41, 42, 43, 44, 45, 46, 47, 48, 49, 50, 51, 132, 133, 134, 135, 136, 137] (by decide +kernel) (by decide +kernel)
set_option maxRecDepth 20000 in
theorem gX4_redraw_X3_findFault : GoodIn wsX4_redraw (wsV RX4 44 RX3 yX3_findFault wsX3_findFault) := goodIn_app (goodIn_of _ (by decide +kernel)) ggX4_redraw_X3_findFault
set_option maxRecDepth 20000 in
theorem ggX4_redraw_X2_remember : GoodIn wsX4_redraw wsX2_remember := goodIn_r _ [56, 57, 58, 59, 60, 55, 61, 62, 63, 64, 65, 66, 67, 68, 69, 7, 70, 9, 71, 72, 73, 74, 75, 76, 77, 78, 79, 11, 80, 138, 139, 123, 124, 125, 126, 127, 128, 129, 130, 131] (by decide +kernel) (by decide +kernel)
set_option maxRecDepth 20000 in
theorem gX4_redraw_X2_remember : GoodIn wsX4_redraw (wsV RX4 52 RX2 yX2_remember wsX2_remember) := goodIn_app (goodIn_of _ (by decide +kernel)) ggX4_redraw_X2_remember
set_option maxRecDepth 20000 in
theorem ggX4_redraw_X0_drawByText : GoodIn wsX4_redraw wsX0_drawByText := goodIn_r _ [84, 85, 86, 87, 7, 88, 72, 73, 74, 50, 11, 51, 10, 12, 89, 90, 91, 92, 71, 93, 94, 95, 96, 77, 75, 97, 98, 99, 100, 101, 102, 103, 104, 105, 106, 107, 108, 109, 110, 111, 112, 76, 132, 133, 134, 135, 136, 137, 123, 124, 125, 126, 127, 128, 129, 130, 131] (by decide +kernel) (by decide +kernel)
set_option maxRecDepth 20000 in
theorem gX4_redraw_X0_drawByText : GoodIn wsX4_redraw (wsV RX4 64 RX0 yX0_drawByText wsX0_drawByText) := goodIn_app (goodIn_of _ (by decide +kernel)) ggX4_redraw_X0_drawByText
set_option maxRecDepth 20000 in
theorem ggX4_redraw_X0_eventsIn : GoodIn wsX4_redraw wsX0_eventsIn := goodIn_r _ [116, 73, 10, 11, 12, 123, 124, 125, 126, 127, 128, 129, 130, 131] (by decide +kernel) (by decide +kernel)
set_option maxRecDepth 20000 in
theorem gX4_redraw_X0_eventsIn : GoodIn wsX4_redraw (wsV RX4 68 RX0 yX0_eventsIn wsX0_eventsIn) := goodIn_app (goodIn_of _ (by decide +kernel)) ggX4_redraw_X0_eventsIn
theorem dX4_redraw_0 : decode cX4_redraw 0 = .ok (.aload_n 0, 1) := by decide +kernel
theorem dX4_redraw_1 : decode cX4_redraw 1 = .ok (.getfield 12, 3) := by decide +kernel
theorem dX4_redraw_4 : decode cX4_redraw 4 = .ok (.iload_n 1, 1) := by decide +kernel
theorem dX4_redraw_5 : decode cX4_redraw 5 = .ok (.invokevirtual 60, 3) := by decide +kernel
theorem dX4_redraw_8 : decode cX4_redraw 8 = .ok (.istore_n 2, 1) := by decide +kernel
theorem dX4_redraw_9 : decode cX4_redraw 9 = .ok (.iload_n 2, 1) := by decide +kernel
theorem dX4_redraw_10 : decode cX4_redraw 10 = .ok (.iconst (-1), 1) := by decide +kernel
theorem dX4_redraw_11 : decode cX4_redraw 11 = .ok (.if_icmp .ne 5, 3) := by decide +kernel
theorem dX4_redraw_14 : decode cX4_redraw 14 = .ok (.iconst (-1), 1) := by decide +kernel
theorem dX4_redraw_15 : decode cX4_redraw 15 = .ok (.ireturn, 1) := by decide +kernel
theorem dX4_redraw_16 : decode cX4_redraw 16 = .ok (.aload_n 0, 1) := by decide +kernel
theorem dX4_redraw_17 : decode cX4_redraw 17 = .ok (.getfield 33, 3) := by decide +kernel
theorem dX4_redraw_20 : decode cX4_redraw 20 = .ok (.invokevirtual 44, 3) := by decide +kernel
theorem dX4_redraw_23 : decode cX4_redraw 23 = .ok (.istore_n 3, 1) := by decide +kernel
theorem dX4_redraw_24 : decode cX4_redraw 24 = .ok (.iload_n 3, 1) := by decide +kernel
theorem dX4_redraw_25 : decode cX4_redraw 25 = .ok (.iconst (-1), 1) := by decide +kernel
theorem dX4_redraw_26 : decode cX4_redraw 26 = .ok (.if_icmp .eq 8, 3) := by decide +kernel
theorem dX4_redraw_29 : decode cX4_redraw 29 = .ok (.bipush (-100), 2) := by decide +kernel
theorem dX4_redraw_31 : decode cX4_redraw 31 = .ok (.iload_n 3, 1) := by decide +kernel
theorem dX4_redraw_32 : decode cX4_redraw 32 = .ok (.isub, 1) := by decide +kernel
theorem dX4_redraw_33 : decode cX4_redraw 33 = .ok (.ireturn, 1) := by decide +kernel
theorem dX4_redraw_34 : decode cX4_redraw 34 = .ok (.aload_n 0, 1) := by decide +kernel
theorem dX4_redraw_35 : decode cX4_redraw 35 = .ok (.getfield 26, 3) := by decide +kernel
theorem dX4_redraw_38 : decode cX4_redraw 38 = .ok (.aload_n 0, 1) := by decide +kernel
theorem dX4_redraw_39 : decode cX4_redraw 39 = .ok (.getfield 12, 3) := by decide +kernel
theorem dX4_redraw_42 : decode cX4_redraw 42 = .ok (.invokevirtual 52, 3) := by decide +kernel
theorem dX4_redraw_45 : decode cX4_redraw 45 = .ok (.aload_n 0, 1) := by decide +kernel
theorem dX4_redraw_46 : decode cX4_redraw 46 = .ok (.getfield 12, 3) := by decide +kernel
theorem dX4_redraw_49 : decode cX4_redraw 49 = .ok (.iload_n 2, 1) := by decide +kernel
theorem dX4_redraw_50 : decode cX4_redraw 50 = .ok (.aload_n 0, 1) := by decide +kernel
theorem dX4_redraw_51 : decode cX4_redraw 51 = .ok (.getfield 33, 3) := by decide +kernel
theorem dX4_redraw_54 : decode cX4_redraw 54 = .ok (.invokevirtual 64, 3) := by decide +kernel
theorem dX4_redraw_57 : decode cX4_redraw 57 = .ok (.aload_n 0, 1) := by decide +kernel
theorem dX4_redraw_58 : decode cX4_redraw 58 = .ok (.getfield 12, 3) := by decide +kernel
theorem dX4_redraw_61 : decode cX4_redraw 61 = .ok (.iload_n 2, 1) := by decide +kernel
theorem dX4_redraw_62 : decode cX4_redraw 62 = .ok (.invokevirtual 68, 3) := by decide +kernel
theorem dX4_redraw_65 : decode cX4_redraw 65 = .ok (.ireturn, 1) := by decide +kernel
set_option maxRecDepth 20000 in
theorem ggX4_takeAway_X0_slotOf : GoodIn wsX4_takeAway wsX0_slotOf := goodIn_r _ [7, 8, 9, 10, 11, 61, 62, 63, 64, 65, 66, 67, 68, 69] (by decide +kernel) (by decide +kernel)
set_option maxRecDepth 20000 in
theorem gX4_takeAway_X0_slotOf : GoodIn wsX4_takeAway (wsV RX4 60 RX0 yX0_slotOf wsX0_slotOf) := goodIn_app (goodIn_of _ (by decide +kernel)) ggX4_takeAway_X0_slotOf
set_option maxRecDepth 20000 in
theorem ggX4_takeAway_X2_remember : GoodIn wsX4_takeAway wsX2_remember := goodIn_r _ [16, 17, 18, 19, 20, 15, 21, 22, 23, 24, 25, 26, 27, 28, 29, 6, 30, 8, 31, 32, 33, 34, 35, 36, 37, 38, 39, 10, 40, 70, 71, 61, 62, 63, 64, 65, 66, 67, 68, 69] (by decide +kernel) (by decide +kernel)
set_option maxRecDepth 20000 in
theorem gX4_takeAway_X2_remember : GoodIn wsX4_takeAway (wsV RX4 52 RX2 yX2_remember wsX2_remember) := goodIn_app (goodIn_of _ (by decide +kernel)) ggX4_takeAway_X2_remember
set_option maxRecDepth 20000 in
theorem ggX4_takeAway_X0_removePanel : GoodIn wsX4_takeAway wsX0_removePanel := goodIn_r _ [44, 8, 45, 46, 47, 6, 48, 37, 35, 49, 50, 51, 52, 9, 10, 11, 53, 54, 61, 62, 63, 64, 65, 66, 67, 68, 69] (by decide +kernel) (by decide +kernel)
set_option maxRecDepth 20000 in
theorem gX4_takeAway_X0_removePanel : GoodIn wsX4_takeAway (wsV RX4 71 RX0 yX0_removePanel wsX0_removePanel) := goodIn_app (goodIn_of _ (by decide +kernel)) ggX4_takeAway_X0_removePanel
theorem dX4_takeAway_0 : decode cX4_takeAway 0 = .ok (.aload_n 0, 1) := by decide +kernel
theorem dX4_takeAway_1 : decode cX4_takeAway 1 = .ok (.getfield 12, 3) := by decide +kernel
theorem dX4_takeAway_4 : decode cX4_takeAway 4 = .ok (.iload_n 1, 1) := by decide +kernel
theorem dX4_takeAway_5 : decode cX4_takeAway 5 = .ok (.invokevirtual 60, 3) := by decide +kernel
theorem dX4_takeAway_8 : decode cX4_takeAway 8 = .ok (.istore_n 2, 1) := by decide +kernel
theorem dX4_takeAway_9 : decode cX4_takeAway 9 = .ok (.iload_n 2, 1) := by decide +kernel
theorem dX4_takeAway_10 : decode cX4_takeAway 10 = .ok (.iconst (-1), 1) := by decide +kernel
theorem dX4_takeAway_11 : decode cX4_takeAway 11 = .ok (.if_icmp .ne 5, 3) := by decide +kernel
theorem dX4_takeAway_14 : decode cX4_takeAway 14 = .ok (.iconst (-1), 1) := by decide +kernel
theorem dX4_takeAway_15 : decode cX4_takeAway 15 = .ok (.ireturn, 1) := by decide +kernel
theorem dX4_takeAway_16 : decode cX4_takeAway 16 = .ok (.aload_n 0, 1) := by decide +kernel
theorem dX4_takeAway_17 : decode cX4_takeAway 17 = .ok (.getfield 26, 3) := by decide +kernel
theorem dX4_takeAway_20 : decode cX4_takeAway 20 = .ok (.aload_n 0, 1) := by decide +kernel
theorem dX4_takeAway_21 : decode cX4_takeAway 21 = .ok (.getfield 12, 3) := by decide +kernel
theorem dX4_takeAway_24 : decode cX4_takeAway 24 = .ok (.invokevirtual 52, 3) := by decide +kernel
theorem dX4_takeAway_27 : decode cX4_takeAway 27 = .ok (.aload_n 0, 1) := by decide +kernel
theorem dX4_takeAway_28 : decode cX4_takeAway 28 = .ok (.getfield 12, 3) := by decide +kernel
theorem dX4_takeAway_31 : decode cX4_takeAway 31 = .ok (.iload_n 2, 1) := by decide +kernel
theorem dX4_takeAway_32 : decode cX4_takeAway 32 = .ok (.invokevirtual 71, 3) := by decide +kernel
theorem dX4_takeAway_35 : decode cX4_takeAway 35 = .ok (.aload_n 0, 1) := by decide +kernel
theorem dX4_takeAway_36 : decode cX4_takeAway 36 = .ok (.getfield 12, 3) := by decide +kernel
theorem dX4_takeAway_39 : decode cX4_takeAway 39 = .ok (.getfield 75, 3) := by decide +kernel
theorem dX4_takeAway_42 : decode cX4_takeAway 42 = .ok (.ireturn, 1) := by decide +kernel
set_option maxRecDepth 20000 in
theorem ggX4_move_X0_slotOf : GoodIn wsX4_move wsX0_slotOf := goodIn_r _ [7, 8, 9, 10, 11, 152, 153, 154, 155, 156, 157, 158, 159, 160] (by decide +kernel) (by decide +kernel)
set_option maxRecDepth 20000 in
theorem gX4_move_X0_slotOf : GoodIn wsX4_move (wsV RX4 60 RX0 yX0_slotOf wsX0_slotOf) := goodIn_app (goodIn_of _ (by decide +kernel)) ggX4_move_X0_slotOf
set_option maxRecDepth 20000 in
theorem ggX4_move_X4_isScene : GoodIn wsX4_move wsX4_isScene := goodIn_r _ [14] (by decide +kernel) (by decide +kernel)
set_option maxRecDepth 20000 in
theorem gX4_move_X4_isScene : GoodIn wsX4_move (va_wsS RX4 79 yX4_isScene wsX4_isScene) := goodIn_app (goodIn_of _ (by decide +kernel)) ggX4_move_X4_isScene
set_option maxRecDepth 20000 in
theorem ggX4_move_X0_hasPlaceFor : GoodIn wsX4_move wsX0_hasPlaceFor := goodIn_r _ [18, 19, 20, 21, 6, 22, 23, 24, 25, 26, 27, 28, 29, 9, 10, 11, 30, 31, 32, 33, 152, 153, 154, 155, 156, 157, 158, 159, 160] (by decide +kernel) (by decide +kernel)
set_option maxRecDepth 20000 in
theorem gX4_move_X0_hasPlaceFor : GoodIn wsX4_move (wsV RX4 83 RX0 yX0_hasPlaceFor wsX0_hasPlaceFor) := goodIn_app (goodIn_of _ (by decide +kernel)) ggX4_move_X0_hasPlaceFor
set_option maxRecDepth 20000 in
theorem ggX4_move_X0_sceneOf : GoodIn wsX4_move wsX0_sceneOf := goodIn_r _ [33, 28, 9, 10, 11, 152, 153, 154, 155, 156, 157, 158, 159, 160] (by decide +kernel) (by decide +kernel)
set_option maxRecDepth 20000 in
theorem gX4_move_X0_sceneOf : GoodIn wsX4_move (wsV RX4 87 RX0 yX0_sceneOf wsX0_sceneOf) := goodIn_app (goodIn_of _ (by decide +kernel)) ggX4_move_X0_sceneOf
set_option maxRecDepth 20000 in
theorem ggX4_move_X0_placeOf : GoodIn wsX4_move wsX0_placeOf := goodIn_r _ [38, 39, 40, 41, 6, 42, 27, 29, 9, 10, 11, 30, 31, 32, 33, 28, 43, 44, 45, 46, 47, 152, 153, 154, 155, 156, 157, 158, 159, 160] (by decide +kernel) (by decide +kernel)
set_option maxRecDepth 20000 in
theorem gX4_move_X0_placeOf : GoodIn wsX4_move (wsV RX4 90 RX0 yX0_placeOf wsX0_placeOf) := goodIn_app (goodIn_of _ (by decide +kernel)) ggX4_move_X0_placeOf
set_option maxRecDepth 20000 in
theorem ggX4_move_X2_remember : GoodIn wsX4_move wsX2_remember := goodIn_r _ [52, 53, 54, 55, 56, 51, 57, 58, 59, 60, 61, 62, 63, 64, 65, 6, 66, 8, 28, 67, 68, 69, 29, 47, 27, 70, 71, 10, 72, 161, 162, 152, 153, 154, 155, 156, 157, 158, 159, 160] (by decide +kernel) (by decide +kernel)
set_option maxRecDepth 20000 in
theorem gX4_move_X2_remember : GoodIn wsX4_move (wsV RX4 52 RX2 yX2_remember wsX2_remember) := goodIn_app (goodIn_of _ (by decide +kernel)) ggX4_move_X2_remember
set_option maxRecDepth 20000 in
theorem ggX4_move_X0_takeOut : GoodIn wsX4_move wsX0_takeOut := goodIn_r _ [76, 27, 29, 39, 40, 41, 6, 42, 9, 10, 11, 77, 78, 152, 153, 154, 155, 156, 157, 158, 159, 160] (by decide +kernel) (by decide +kernel)
set_option maxRecDepth 20000 in
theorem gX4_move_X0_takeOut : GoodIn wsX4_move (wsV RX4 93 RX0 yX0_takeOut wsX0_takeOut) := goodIn_app (goodIn_of _ (by decide +kernel)) ggX4_move_X0_takeOut
set_option maxRecDepth 20000 in
theorem ggX4_move_X0_putIn : GoodIn wsX4_move wsX0_putIn := goodIn_r _ [82, 28, 27, 29, 77, 10, 78, 43, 44, 45, 6, 46, 47, 9, 11, 152, 153, 154, 155, 156, 157, 158, 159, 160] (by decide +kernel) (by decide +kernel)
set_option maxRecDepth 20000 in
theorem gX4_move_X0_putIn : GoodIn wsX4_move (wsV RX4 96 RX0 yX0_putIn wsX0_putIn) := goodIn_app (goodIn_of _ (by decide +kernel)) ggX4_move_X0_putIn
set_option maxRecDepth 20000 in
theorem ggX4_move_X4_breaksNow : GoodIn wsX4_move wsX4_breaksNow := goodIn_r _ [86, 87, 1, 88, 89, 90, 91, 92, 93, 94, 95, 96, 10, 97, 98, 99, 100, 6, 101, 27, 29, 9, 11, 102, 31, 32, 33, 28, 103, 104, 105, 106, 107, 108, 109, 110, 111, 112, 8, 113, 114, 115, 116, 68, 117, 118, 119, 120, 69, 121, 122, 123, 124, 125, 126, 127, 128, 129, 130, 131, 132, 133, 134, 135, 136, 137, 77, 78, 138, 139, 140, 141, 142, 143, 144, 145, 146, 147, 148, 149, 150, 151, 152, 153, 154, 155, 156, 157, 158, 159, 160, 163, 164, 165, 166, 167, 168] (by decide +kernel) (by decide +kernel)
set_option maxRecDepth 20000 in
theorem gX4_move_X4_breaksNow : GoodIn wsX4_move (wsV RX4 100 RX4 yX4_breaksNow wsX4_breaksNow) := goodIn_app (goodIn_of _ (by decide +kernel)) ggX4_move_X4_breaksNow
theorem dX4_move_0 : decode cX4_move 0 = .ok (.aload_n 0, 1) := by decide +kernel
theorem dX4_move_1 : decode cX4_move 1 = .ok (.getfield 12, 3) := by decide +kernel
theorem dX4_move_4 : decode cX4_move 4 = .ok (.iload_n 1, 1) := by decide +kernel
theorem dX4_move_5 : decode cX4_move 5 = .ok (.invokevirtual 60, 3) := by decide +kernel
theorem dX4_move_8 : decode cX4_move 8 = .ok (.istore 4, 2) := by decide +kernel
theorem dX4_move_10 : decode cX4_move 10 = .ok (.iload 4, 2) := by decide +kernel
theorem dX4_move_12 : decode cX4_move 12 = .ok (.iconst (-1), 1) := by decide +kernel
theorem dX4_move_13 : decode cX4_move 13 = .ok (.if_icmp .eq 10, 3) := by decide +kernel
theorem dX4_move_16 : decode cX4_move 16 = .ok (.iload_n 2, 1) := by decide +kernel
theorem dX4_move_17 : decode cX4_move 17 = .ok (.invokestatic 79, 3) := by decide +kernel
theorem dX4_move_20 : decode cX4_move 20 = .ok (.ifCond .ne 5, 3) := by decide +kernel
theorem dX4_move_23 : decode cX4_move 23 = .ok (.iconst (-1), 1) := by decide +kernel
theorem dX4_move_24 : decode cX4_move 24 = .ok (.ireturn, 1) := by decide +kernel
theorem dX4_move_25 : decode cX4_move 25 = .ok (.aload_n 0, 1) := by decide +kernel
theorem dX4_move_26 : decode cX4_move 26 = .ok (.getfield 12, 3) := by decide +kernel
theorem dX4_move_29 : decode cX4_move 29 = .ok (.iload 4, 2) := by decide +kernel
theorem dX4_move_31 : decode cX4_move 31 = .ok (.iload_n 2, 1) := by decide +kernel
theorem dX4_move_32 : decode cX4_move 32 = .ok (.iload_n 3, 1) := by decide +kernel
theorem dX4_move_33 : decode cX4_move 33 = .ok (.invokevirtual 83, 3) := by decide +kernel
theorem dX4_move_36 : decode cX4_move 36 = .ok (.ifCond .ne 6, 3) := by decide +kernel
theorem dX4_move_39 : decode cX4_move 39 = .ok (.bipush (-2), 2) := by decide +kernel
theorem dX4_move_41 : decode cX4_move 41 = .ok (.ireturn, 1) := by decide +kernel
theorem dX4_move_42 : decode cX4_move 42 = .ok (.aload_n 0, 1) := by decide +kernel
theorem dX4_move_43 : decode cX4_move 43 = .ok (.getfield 12, 3) := by decide +kernel
theorem dX4_move_46 : decode cX4_move 46 = .ok (.iload 4, 2) := by decide +kernel
theorem dX4_move_48 : decode cX4_move 48 = .ok (.invokevirtual 87, 3) := by decide +kernel
theorem dX4_move_51 : decode cX4_move 51 = .ok (.iload_n 2, 1) := by decide +kernel
theorem dX4_move_52 : decode cX4_move 52 = .ok (.if_icmp .ne 19, 3) := by decide +kernel
theorem dX4_move_55 : decode cX4_move 55 = .ok (.aload_n 0, 1) := by decide +kernel
theorem dX4_move_56 : decode cX4_move 56 = .ok (.getfield 12, 3) := by decide +kernel
theorem dX4_move_59 : decode cX4_move 59 = .ok (.iload 4, 2) := by decide +kernel
theorem dX4_move_61 : decode cX4_move 61 = .ok (.invokevirtual 90, 3) := by decide +kernel
theorem dX4_move_64 : decode cX4_move 64 = .ok (.iload_n 3, 1) := by decide +kernel
theorem dX4_move_65 : decode cX4_move 65 = .ok (.if_icmp .ne 6, 3) := by decide +kernel
theorem dX4_move_68 : decode cX4_move 68 = .ok (.bipush (-5), 2) := by decide +kernel
theorem dX4_move_70 : decode cX4_move 70 = .ok (.ireturn, 1) := by decide +kernel
theorem dX4_move_71 : decode cX4_move 71 = .ok (.aload_n 0, 1) := by decide +kernel
theorem dX4_move_72 : decode cX4_move 72 = .ok (.getfield 26, 3) := by decide +kernel
theorem dX4_move_75 : decode cX4_move 75 = .ok (.aload_n 0, 1) := by decide +kernel
theorem dX4_move_76 : decode cX4_move 76 = .ok (.getfield 12, 3) := by decide +kernel
theorem dX4_move_79 : decode cX4_move 79 = .ok (.invokevirtual 52, 3) := by decide +kernel
theorem dX4_move_82 : decode cX4_move 82 = .ok (.aload_n 0, 1) := by decide +kernel
theorem dX4_move_83 : decode cX4_move 83 = .ok (.getfield 12, 3) := by decide +kernel
theorem dX4_move_86 : decode cX4_move 86 = .ok (.iload 4, 2) := by decide +kernel
theorem dX4_move_88 : decode cX4_move 88 = .ok (.invokevirtual 93, 3) := by decide +kernel
theorem dX4_move_91 : decode cX4_move 91 = .ok (.aload_n 0, 1) := by decide +kernel
theorem dX4_move_92 : decode cX4_move 92 = .ok (.getfield 12, 3) := by decide +kernel
theorem dX4_move_95 : decode cX4_move 95 = .ok (.iload 4, 2) := by decide +kernel
theorem dX4_move_97 : decode cX4_move 97 = .ok (.iload_n 2, 1) := by decide +kernel
theorem dX4_move_98 : decode cX4_move 98 = .ok (.iload_n 3, 1) := by decide +kernel
theorem dX4_move_99 : decode cX4_move 99 = .ok (.invokevirtual 96, 3) := by decide +kernel
theorem dX4_move_102 : decode cX4_move 102 = .ok (.aload_n 0, 1) := by decide +kernel
theorem dX4_move_103 : decode cX4_move 103 = .ok (.invokevirtual 100, 3) := by decide +kernel
theorem dX4_move_106 : decode cX4_move 106 = .ok (.ireturn, 1) := by decide +kernel
set_option maxRecDepth 20000 in
theorem ggX4_moveScene_X4_isScene : GoodIn wsX4_moveScene wsX4_isScene := goodIn_r _ [6] (by decide +kernel) (by decide +kernel)
set_option maxRecDepth 20000 in
theorem gX4_moveScene_X4_isScene : GoodIn wsX4_moveScene (va_wsS RX4 79 yX4_isScene wsX4_isScene) := goodIn_app (goodIn_of _ (by decide +kernel)) ggX4_moveScene_X4_isScene
set_option maxRecDepth 20000 in
theorem ggX4_moveScene_X4_isScenePlace : GoodIn wsX4_moveScene wsX4_isScenePlace := goodIn_r _ [9] (by decide +kernel) (by decide +kernel)
set_option maxRecDepth 20000 in
theorem gX4_moveScene_X4_isScenePlace : GoodIn wsX4_moveScene (va_wsS RX4 103 yX4_isScenePlace wsX4_isScenePlace) := goodIn_app (goodIn_of _ (by decide +kernel)) ggX4_moveScene_X4_isScenePlace
set_option maxRecDepth 20000 in
theorem ggX4_moveScene_X0_placeOfScene : GoodIn wsX4_moveScene wsX0_placeOfScene := goodIn_r _ [14, 15, 16, 5, 17, 138, 139, 140, 141, 142, 143, 144, 145, 146] (by decide +kernel) (by decide +kernel)
set_option maxRecDepth 20000 in
theorem gX4_moveScene_X0_placeOfScene : GoodIn wsX4_moveScene (wsV RX4 106 RX0 yX0_placeOfScene wsX0_placeOfScene) := goodIn_app (goodIn_of _ (by decide +kernel)) ggX4_moveScene_X0_placeOfScene
set_option maxRecDepth 20000 in
theorem ggX4_moveScene_X2_remember : GoodIn wsX4_moveScene wsX2_remember := goodIn_r _ [22, 23, 24, 25, 26, 21, 27, 28, 29, 30, 31, 32, 33, 34, 35, 13, 36, 37, 38, 39, 40, 41, 42, 15, 43, 44, 45, 5, 46, 147, 148, 138, 139, 140, 141, 142, 143, 144, 145, 146] (by decide +kernel) (by decide +kernel)
set_option maxRecDepth 20000 in
theorem gX4_moveScene_X2_remember : GoodIn wsX4_moveScene (wsV RX4 52 RX2 yX2_remember wsX2_remember) := goodIn_app (goodIn_of _ (by decide +kernel)) ggX4_moveScene_X2_remember
set_option maxRecDepth 20000 in
theorem ggX4_moveScene_X0_putSceneAt : GoodIn wsX4_moveScene wsX0_putSceneAt := goodIn_r _ [50, 15, 51, 11, 12, 13, 14, 16, 5, 17, 52, 53, 54, 55, 56, 57, 43, 58, 59, 60, 61, 38, 42, 62, 63, 64, 65, 138, 139, 140, 141, 142, 143, 144, 145, 146] (by decide +kernel) (by decide +kernel)
set_option maxRecDepth 20000 in
theorem gX4_moveScene_X0_putSceneAt : GoodIn wsX4_moveScene (wsV RX4 109 RX0 yX0_putSceneAt wsX0_putSceneAt) := goodIn_app (goodIn_of _ (by decide +kernel)) ggX4_moveScene_X0_putSceneAt
set_option maxRecDepth 20000 in
theorem ggX4_moveScene_X4_breaksNow : GoodIn wsX4_moveScene wsX4_breaksNow := goodIn_r _ [69, 70, 1, 71, 72, 73, 74, 75, 76, 77, 78, 79, 5, 80, 81, 82, 83, 13, 84, 43, 42, 16, 17, 85, 86, 87, 88, 38, 89, 90, 91, 92, 93, 94, 95, 96, 97, 98, 37, 99, 100, 101, 102, 40, 103, 104, 105, 106, 41, 107, 108, 109, 110, 111, 112, 113, 114, 115, 116, 117, 118, 119, 120, 121, 122, 123, 52, 53, 124, 125, 126, 127, 128, 129, 130, 131, 132, 133, 134, 135, 136, 137, 138, 139, 140, 141, 142, 143, 144, 145, 146, 149, 150, 151, 152, 153, 154] (by decide +kernel) (by decide +kernel)
set_option maxRecDepth 20000 in
theorem gX4_moveScene_X4_breaksNow : GoodIn wsX4_moveScene (wsV RX4 100 RX4 yX4_breaksNow wsX4_breaksNow) := goodIn_app (goodIn_of _ (by decide +kernel)) ggX4_moveScene_X4_breaksNow
theorem dX4_moveScene_0 : decode cX4_moveScene 0 = .ok (.iload_n 1, 1) := by decide +kernel
theorem dX4_moveScene_1 : decode cX4_moveScene 1 = .ok (.invokestatic 79, 3) := by decide +kernel
theorem dX4_moveScene_4 : decode cX4_moveScene 4 = .ok (.ifCond .ne 5, 3) := by decide +kernel
theorem dX4_moveScene_7 : decode cX4_moveScene 7 = .ok (.iconst (-1), 1) := by decide +kernel
theorem dX4_moveScene_8 : decode cX4_moveScene 8 = .ok (.ireturn, 1) := by decide +kernel
theorem dX4_moveScene_9 : decode cX4_moveScene 9 = .ok (.iload_n 2, 1) := by decide +kernel
theorem dX4_moveScene_10 : decode cX4_moveScene 10 = .ok (.invokestatic 103, 3) := by decide +kernel
theorem dX4_moveScene_13 : decode cX4_moveScene 13 = .ok (.ifCond .ne 6, 3) := by decide +kernel
theorem dX4_moveScene_16 : decode cX4_moveScene 16 = .ok (.bipush (-2), 2) := by decide +kernel
theorem dX4_moveScene_18 : decode cX4_moveScene 18 = .ok (.ireturn, 1) := by decide +kernel
theorem dX4_moveScene_19 : decode cX4_moveScene 19 = .ok (.aload_n 0, 1) := by decide +kernel
theorem dX4_moveScene_20 : decode cX4_moveScene 20 = .ok (.getfield 12, 3) := by decide +kernel
theorem dX4_moveScene_23 : decode cX4_moveScene 23 = .ok (.iload_n 1, 1) := by decide +kernel
theorem dX4_moveScene_24 : decode cX4_moveScene 24 = .ok (.invokevirtual 106, 3) := by decide +kernel
theorem dX4_moveScene_27 : decode cX4_moveScene 27 = .ok (.iload_n 2, 1) := by decide +kernel
theorem dX4_moveScene_28 : decode cX4_moveScene 28 = .ok (.if_icmp .ne 6, 3) := by decide +kernel
theorem dX4_moveScene_31 : decode cX4_moveScene 31 = .ok (.bipush (-5), 2) := by decide +kernel
theorem dX4_moveScene_33 : decode cX4_moveScene 33 = .ok (.ireturn, 1) := by decide +kernel
theorem dX4_moveScene_34 : decode cX4_moveScene 34 = .ok (.aload_n 0, 1) := by decide +kernel
theorem dX4_moveScene_35 : decode cX4_moveScene 35 = .ok (.getfield 26, 3) := by decide +kernel
theorem dX4_moveScene_38 : decode cX4_moveScene 38 = .ok (.aload_n 0, 1) := by decide +kernel
theorem dX4_moveScene_39 : decode cX4_moveScene 39 = .ok (.getfield 12, 3) := by decide +kernel
theorem dX4_moveScene_42 : decode cX4_moveScene 42 = .ok (.invokevirtual 52, 3) := by decide +kernel
theorem dX4_moveScene_45 : decode cX4_moveScene 45 = .ok (.aload_n 0, 1) := by decide +kernel
theorem dX4_moveScene_46 : decode cX4_moveScene 46 = .ok (.getfield 12, 3) := by decide +kernel
theorem dX4_moveScene_49 : decode cX4_moveScene 49 = .ok (.iload_n 1, 1) := by decide +kernel
theorem dX4_moveScene_50 : decode cX4_moveScene 50 = .ok (.iload_n 2, 1) := by decide +kernel
theorem dX4_moveScene_51 : decode cX4_moveScene 51 = .ok (.invokevirtual 109, 3) := by decide +kernel
theorem dX4_moveScene_54 : decode cX4_moveScene 54 = .ok (.aload_n 0, 1) := by decide +kernel
theorem dX4_moveScene_55 : decode cX4_moveScene 55 = .ok (.invokevirtual 100, 3) := by decide +kernel
theorem dX4_moveScene_58 : decode cX4_moveScene 58 = .ok (.ireturn, 1) := by decide +kernel
set_option maxRecDepth 20000 in
theorem ggX4_time_X0_slotOf : GoodIn wsX4_time wsX0_slotOf := goodIn_r _ [7, 8, 9, 10, 11, 57, 58, 59, 60, 61, 62, 63, 64, 65] (by decide +kernel) (by decide +kernel)
set_option maxRecDepth 20000 in
theorem gX4_time_X0_slotOf : GoodIn wsX4_time (wsV RX4 60 RX0 yX0_slotOf wsX0_slotOf) := goodIn_app (goodIn_of _ (by decide +kernel)) ggX4_time_X0_slotOf
set_option maxRecDepth 20000 in
theorem ggX4_time_X0_durationOf : GoodIn wsX4_time wsX0_durationOf := goodIn_r _ [15, 16, 9, 10, 11, 57, 58, 59, 60, 61, 62, 63, 64, 65] (by decide +kernel) (by decide +kernel)
set_option maxRecDepth 20000 in
theorem gX4_time_X0_durationOf : GoodIn wsX4_time (wsV RX4 113 RX0 yX0_durationOf wsX0_durationOf) := goodIn_app (goodIn_of _ (by decide +kernel)) ggX4_time_X0_durationOf
set_option maxRecDepth 20000 in
theorem ggX4_time_X2_remember : GoodIn wsX4_time wsX2_remember := goodIn_r _ [21, 22, 23, 24, 25, 20, 26, 27, 28, 29, 30, 31, 32, 33, 34, 6, 35, 8, 36, 16, 37, 38, 39, 40, 41, 42, 43, 10, 44, 66, 67, 57, 58, 59, 60, 61, 62, 63, 64, 65] (by decide +kernel) (by decide +kernel)
set_option maxRecDepth 20000 in
theorem gX4_time_X2_remember : GoodIn wsX4_time (wsV RX4 52 RX2 yX2_remember wsX2_remember) := goodIn_app (goodIn_of _ (by decide +kernel)) ggX4_time_X2_remember
set_option maxRecDepth 20000 in
theorem ggX4_time_X0_setDuration : GoodIn wsX4_time wsX0_setDuration := goodIn_r _ [48, 16, 49, 10, 50, 57, 58, 59, 60, 61, 62, 63, 64, 65] (by decide +kernel) (by decide +kernel)
set_option maxRecDepth 20000 in
theorem gX4_time_X0_setDuration : GoodIn wsX4_time (wsV RX4 116 RX0 yX0_setDuration wsX0_setDuration) := goodIn_app (goodIn_of _ (by decide +kernel)) ggX4_time_X0_setDuration
theorem dX4_time_0 : decode cX4_time 0 = .ok (.aload_n 0, 1) := by decide +kernel
theorem dX4_time_1 : decode cX4_time 1 = .ok (.getfield 12, 3) := by decide +kernel
theorem dX4_time_4 : decode cX4_time 4 = .ok (.iload_n 1, 1) := by decide +kernel
theorem dX4_time_5 : decode cX4_time 5 = .ok (.invokevirtual 60, 3) := by decide +kernel
theorem dX4_time_8 : decode cX4_time 8 = .ok (.istore_n 3, 1) := by decide +kernel
theorem dX4_time_9 : decode cX4_time 9 = .ok (.iload_n 3, 1) := by decide +kernel
theorem dX4_time_10 : decode cX4_time 10 = .ok (.iconst (-1), 1) := by decide +kernel
theorem dX4_time_11 : decode cX4_time 11 = .ok (.if_icmp .ne 5, 3) := by decide +kernel
theorem dX4_time_14 : decode cX4_time 14 = .ok (.iconst (-1), 1) := by decide +kernel
theorem dX4_time_15 : decode cX4_time 15 = .ok (.ireturn, 1) := by decide +kernel
theorem dX4_time_16 : decode cX4_time 16 = .ok (.iload_n 2, 1) := by decide +kernel
theorem dX4_time_17 : decode cX4_time 17 = .ok (.iconst 1, 1) := by decide +kernel
theorem dX4_time_18 : decode cX4_time 18 = .ok (.if_icmp .lt 9, 3) := by decide +kernel
theorem dX4_time_21 : decode cX4_time 21 = .ok (.iload_n 2, 1) := by decide +kernel
theorem dX4_time_22 : decode cX4_time 22 = .ok (.bipush 99, 2) := by decide +kernel
theorem dX4_time_24 : decode cX4_time 24 = .ok (.if_icmp .le 6, 3) := by decide +kernel
theorem dX4_time_27 : decode cX4_time 27 = .ok (.bipush (-2), 2) := by decide +kernel
theorem dX4_time_29 : decode cX4_time 29 = .ok (.ireturn, 1) := by decide +kernel
theorem dX4_time_30 : decode cX4_time 30 = .ok (.aload_n 0, 1) := by decide +kernel
theorem dX4_time_31 : decode cX4_time 31 = .ok (.getfield 12, 3) := by decide +kernel
theorem dX4_time_34 : decode cX4_time 34 = .ok (.iload_n 3, 1) := by decide +kernel
theorem dX4_time_35 : decode cX4_time 35 = .ok (.invokevirtual 113, 3) := by decide +kernel
theorem dX4_time_38 : decode cX4_time 38 = .ok (.istore 4, 2) := by decide +kernel
theorem dX4_time_40 : decode cX4_time 40 = .ok (.iload 4, 2) := by decide +kernel
theorem dX4_time_42 : decode cX4_time 42 = .ok (.iload_n 2, 1) := by decide +kernel
theorem dX4_time_43 : decode cX4_time 43 = .ok (.if_icmp .ne 6, 3) := by decide +kernel
theorem dX4_time_46 : decode cX4_time 46 = .ok (.bipush (-5), 2) := by decide +kernel
theorem dX4_time_48 : decode cX4_time 48 = .ok (.ireturn, 1) := by decide +kernel
theorem dX4_time_49 : decode cX4_time 49 = .ok (.aload_n 0, 1) := by decide +kernel
theorem dX4_time_50 : decode cX4_time 50 = .ok (.getfield 26, 3) := by decide +kernel
theorem dX4_time_53 : decode cX4_time 53 = .ok (.aload_n 0, 1) := by decide +kernel
theorem dX4_time_54 : decode cX4_time 54 = .ok (.getfield 12, 3) := by decide +kernel
theorem dX4_time_57 : decode cX4_time 57 = .ok (.invokevirtual 52, 3) := by decide +kernel
theorem dX4_time_60 : decode cX4_time 60 = .ok (.aload_n 0, 1) := by decide +kernel
theorem dX4_time_61 : decode cX4_time 61 = .ok (.getfield 12, 3) := by decide +kernel
theorem dX4_time_64 : decode cX4_time 64 = .ok (.iload_n 3, 1) := by decide +kernel
theorem dX4_time_65 : decode cX4_time 65 = .ok (.iload_n 2, 1) := by decide +kernel
theorem dX4_time_66 : decode cX4_time 66 = .ok (.invokevirtual 116, 3) := by decide +kernel
theorem dX4_time_69 : decode cX4_time 69 = .ok (.iload 4, 2) := by decide +kernel
theorem dX4_time_71 : decode cX4_time 71 = .ok (.ireturn, 1) := by decide +kernel
set_option maxRecDepth 20000 in
theorem ggX4_mend_X4_isScene : GoodIn wsX4_mend wsX4_isScene := goodIn_r _ [6] (by decide +kernel) (by decide +kernel)
set_option maxRecDepth 20000 in
theorem gX4_mend_X4_isScene : GoodIn wsX4_mend (va_wsS RX4 79 yX4_isScene wsX4_isScene) := goodIn_app (goodIn_of _ (by decide +kernel)) ggX4_mend_X4_isScene
set_option maxRecDepth 20000 in
theorem ggX4_mend_X4_lowestToMend : GoodIn wsX4_mend wsX4_lowestToMend := goodIn_r _ [10, 2, 11, 12, 13, 5, 14, 15, 16, 17, 18, 19, 20, 21, 22, 23, 24, 25, 26, 27, 28, 29, 30, 31, 32, 33, 34, 35, 36, 37, 38, 39, 40, 41, 42, 43, 44, 45, 46, 47, 48, 49, 50, 51, 52, 53, 54, 55, 56, 57, 58, 59, 60, 61, 62, 63, 64, 65, 66, 67, 68, 69, 70, 71, 72, 73, 74, 75, 76, 77, 78, 79, 80, 81, 82, 83, 84, 85, 86, 87, 88, 89, 90, 91, 92, 93, 94, 95, 96, 97, 98, 99, 100, 101, 102, 103, 104, 105, 106, 107, 108, 109, 110, 111, 112, 113, 114, 115, 116, 117, 118, 119, 120, 121, 122, 123, 124, 125, 126, 154, 155, 156, 157, 158, 159, 160, 161, 162, 163, 164, 165, 166, 167, 168, 169, 170, 171, 172, 173, 174] (by decide +kernel) (by decide +kernel)
set_option maxRecDepth 20000 in
theorem gX4_mend_X4_lowestToMend : GoodIn wsX4_mend (wsV RX4 119 RX4 yX4_lowestToMend wsX4_lowestToMend) := goodIn_app (goodIn_of _ (by decide +kernel)) ggX4_mend_X4_lowestToMend
set_option maxRecDepth 20000 in
theorem ggX4_mend_X4_lowestBestPlace : GoodIn wsX4_mend wsX4_lowestBestPlace := goodIn_r _ [130, 2, 102, 103, 104, 5, 105, 15, 92, 36, 37, 29, 38, 39, 33, 34, 106, 107, 108, 109, 110, 111, 112, 113, 31, 32, 101, 114, 115, 116, 117, 118, 119, 120, 121, 122, 78, 79, 123, 124, 125, 126, 16, 17, 18, 19, 20, 21, 22, 23, 24, 25, 26, 27, 28, 30, 35, 40, 41, 42, 43, 44, 45, 46, 47, 48, 49, 50, 51, 52, 53, 54, 55, 56, 57, 58, 59, 60, 61, 62, 63, 64, 65, 66, 67, 68, 69, 70, 71, 72, 73, 74, 75, 76, 77, 80, 81, 82, 83, 84, 85, 86, 87, 93, 94, 95, 96, 97, 98, 99, 100, 154, 155, 156, 157, 158, 159, 160, 161, 162, 163, 164, 165, 166, 167, 168, 169, 170, 171, 172, 173, 174] (by decide +kernel) (by decide +kernel)
set_option maxRecDepth 20000 in
theorem gX4_mend_X4_lowestBestPlace : GoodIn wsX4_mend (wsV RX4 122 RX4 yX4_lowestBestPlace wsX4_lowestBestPlace) := goodIn_app (goodIn_of _ (by decide +kernel)) ggX4_mend_X4_lowestBestPlace
set_option maxRecDepth 20000 in
theorem ggX4_mend_X2_remember : GoodIn wsX4_mend wsX2_remember := goodIn_r _ [135, 136, 137, 138, 139, 134, 140, 141, 142, 143, 144, 145, 146, 147, 148, 29, 149, 50, 39, 150, 55, 60, 32, 118, 31, 151, 152, 5, 153, 175, 176, 160, 161, 162, 163, 164, 165, 166, 167, 168] (by decide +kernel) (by decide +kernel)
set_option maxRecDepth 20000 in
theorem gX4_mend_X2_remember : GoodIn wsX4_mend (wsV RX4 52 RX2 yX2_remember wsX2_remember) := goodIn_app (goodIn_of _ (by decide +kernel)) ggX4_mend_X2_remember
set_option maxRecDepth 20000 in
theorem ggX4_mend_X0_takeOut : GoodIn wsX4_mend wsX0_takeOut := goodIn_r _ [122, 31, 32, 110, 111, 112, 29, 113, 33, 5, 34, 78, 79, 160, 161, 162, 163, 164, 165, 166, 167, 168] (by decide +kernel) (by decide +kernel)
set_option maxRecDepth 20000 in
theorem gX4_mend_X0_takeOut : GoodIn wsX4_mend (wsV RX4 93 RX0 yX0_takeOut wsX0_takeOut) := goodIn_app (goodIn_of _ (by decide +kernel)) ggX4_mend_X0_takeOut
set_option maxRecDepth 20000 in
theorem ggX4_mend_X0_putIn : GoodIn wsX4_mend wsX0_putIn := goodIn_r _ [126, 39, 31, 32, 78, 5, 79, 114, 115, 116, 29, 117, 118, 33, 34, 160, 161, 162, 163, 164, 165, 166, 167, 168] (by decide +kernel) (by decide +kernel)
set_option maxRecDepth 20000 in
theorem gX4_mend_X0_putIn : GoodIn wsX4_mend (wsV RX4 96 RX0 yX0_putIn wsX0_putIn) := goodIn_app (goodIn_of _ (by decide +kernel)) ggX4_mend_X0_putIn
theorem dX4_mend_0 : decode cX4_mend 0 = .ok (.iload_n 1, 1) := by decide +kernel
theorem dX4_mend_1 : decode cX4_mend 1 = .ok (.invokestatic 79, 3) := by decide +kernel
theorem dX4_mend_4 : decode cX4_mend 4 = .ok (.ifCond .ne 5, 3) := by decide +kernel
theorem dX4_mend_7 : decode cX4_mend 7 = .ok (.iconst (-1), 1) := by decide +kernel
theorem dX4_mend_8 : decode cX4_mend 8 = .ok (.ireturn, 1) := by decide +kernel
theorem dX4_mend_9 : decode cX4_mend 9 = .ok (.iconst 0, 1) := by decide +kernel
theorem dX4_mend_10 : decode cX4_mend 10 = .ok (.istore_n 2, 1) := by decide +kernel
theorem dX4_mend_11 : decode cX4_mend 11 = .ok (.iconst 0, 1) := by decide +kernel
theorem dX4_mend_12 : decode cX4_mend 12 = .ok (.istore_n 3, 1) := by decide +kernel
theorem dX4_mend_13 : decode cX4_mend 13 = .ok (.iload_n 3, 1) := by decide +kernel
theorem dX4_mend_14 : decode cX4_mend 14 = .ok (.iconst 2, 1) := by decide +kernel
theorem dX4_mend_15 : decode cX4_mend 15 = .ok (.if_icmp .ge 73, 3) := by decide +kernel
theorem dX4_mend_18 : decode cX4_mend 18 = .ok (.aload_n 0, 1) := by decide +kernel
theorem dX4_mend_19 : decode cX4_mend 19 = .ok (.iload_n 1, 1) := by decide +kernel
theorem dX4_mend_20 : decode cX4_mend 20 = .ok (.invokevirtual 119, 3) := by decide +kernel
theorem dX4_mend_23 : decode cX4_mend 23 = .ok (.istore 4, 2) := by decide +kernel
theorem dX4_mend_25 : decode cX4_mend 25 = .ok (.iload 4, 2) := by decide +kernel
theorem dX4_mend_27 : decode cX4_mend 27 = .ok (.iconst (-1), 1) := by decide +kernel
theorem dX4_mend_28 : decode cX4_mend 28 = .ok (.if_icmp .ne 6, 3) := by decide +kernel
theorem dX4_mend_31 : decode cX4_mend 31 = .ok (.goto 57, 3) := by decide +kernel
theorem dX4_mend_34 : decode cX4_mend 34 = .ok (.aload_n 0, 1) := by decide +kernel
theorem dX4_mend_35 : decode cX4_mend 35 = .ok (.iload 4, 2) := by decide +kernel
theorem dX4_mend_37 : decode cX4_mend 37 = .ok (.iload_n 1, 1) := by decide +kernel
theorem dX4_mend_38 : decode cX4_mend 38 = .ok (.invokevirtual 122, 3) := by decide +kernel
theorem dX4_mend_41 : decode cX4_mend 41 = .ok (.istore 5, 2) := by decide +kernel
theorem dX4_mend_43 : decode cX4_mend 43 = .ok (.iload_n 2, 1) := by decide +kernel
theorem dX4_mend_44 : decode cX4_mend 44 = .ok (.ifCond .ne 14, 3) := by decide +kernel
theorem dX4_mend_47 : decode cX4_mend 47 = .ok (.aload_n 0, 1) := by decide +kernel
theorem dX4_mend_48 : decode cX4_mend 48 = .ok (.getfield 26, 3) := by decide +kernel
theorem dX4_mend_51 : decode cX4_mend 51 = .ok (.aload_n 0, 1) := by decide +kernel
theorem dX4_mend_52 : decode cX4_mend 52 = .ok (.getfield 12, 3) := by decide +kernel
theorem dX4_mend_55 : decode cX4_mend 55 = .ok (.invokevirtual 52, 3) := by decide +kernel
theorem dX4_mend_58 : decode cX4_mend 58 = .ok (.aload_n 0, 1) := by decide +kernel
theorem dX4_mend_59 : decode cX4_mend 59 = .ok (.getfield 12, 3) := by decide +kernel
theorem dX4_mend_62 : decode cX4_mend 62 = .ok (.iload 4, 2) := by decide +kernel
theorem dX4_mend_64 : decode cX4_mend 64 = .ok (.invokevirtual 93, 3) := by decide +kernel
theorem dX4_mend_67 : decode cX4_mend 67 = .ok (.aload_n 0, 1) := by decide +kernel
theorem dX4_mend_68 : decode cX4_mend 68 = .ok (.getfield 12, 3) := by decide +kernel
theorem dX4_mend_71 : decode cX4_mend 71 = .ok (.iload 4, 2) := by decide +kernel
theorem dX4_mend_73 : decode cX4_mend 73 = .ok (.iload_n 1, 1) := by decide +kernel
theorem dX4_mend_74 : decode cX4_mend 74 = .ok (.iload 5, 2) := by decide +kernel
theorem dX4_mend_76 : decode cX4_mend 76 = .ok (.invokevirtual 96, 3) := by decide +kernel
theorem dX4_mend_79 : decode cX4_mend 79 = .ok (.iinc 2 1, 3) := by decide +kernel
theorem dX4_mend_82 : decode cX4_mend 82 = .ok (.iinc 3 1, 3) := by decide +kernel
theorem dX4_mend_85 : decode cX4_mend 85 = .ok (.goto (-72), 3) := by decide +kernel
theorem dX4_mend_88 : decode cX4_mend 88 = .ok (.iload_n 2, 1) := by decide +kernel
theorem dX4_mend_89 : decode cX4_mend 89 = .ok (.ifCond .ne 8, 3) := by decide +kernel
theorem dX4_mend_92 : decode cX4_mend 92 = .ok (.bipush (-5), 2) := by decide +kernel
theorem dX4_mend_94 : decode cX4_mend 94 = .ok (.goto 4, 3) := by decide +kernel
theorem dX4_mend_97 : decode cX4_mend 97 = .ok (.iload_n 2, 1) := by decide +kernel
theorem dX4_mend_98 : decode cX4_mend 98 = .ok (.ireturn, 1) := by decide +kernel
set_option maxRecDepth 20000 in
theorem ggX4_type_X3_append : GoodIn wsX4_type wsX3_append := goodIn_r _ [6, 7, 8, 9, 10, 11, 18, 19, 20, 21, 22, 23] (by decide +kernel) (by decide +kernel)
set_option maxRecDepth 20000 in
theorem gX4_type_X3_append : GoodIn wsX4_type (wsV RX4 129 RX3 yX3_append wsX3_append) := goodIn_app (goodIn_of _ (by decide +kernel)) ggX4_type_X3_append
theorem dX4_type_0 : decode cX4_type 0 = .ok (.aload_n 0, 1) := by decide +kernel
theorem dX4_type_1 : decode cX4_type 1 = .ok (.getfield 33, 3) := by decide +kernel
theorem dX4_type_4 : decode cX4_type 4 = .ok (.getfield 126, 3) := by decide +kernel
theorem dX4_type_7 : decode cX4_type 7 = .ok (.bipush 60, 2) := by decide +kernel
theorem dX4_type_9 : decode cX4_type 9 = .ok (.if_icmp .lt 6, 3) := by decide +kernel
theorem dX4_type_12 : decode cX4_type 12 = .ok (.bipush (-3), 2) := by decide +kernel
theorem dX4_type_14 : decode cX4_type 14 = .ok (.ireturn, 1) := by decide +kernel
theorem dX4_type_15 : decode cX4_type 15 = .ok (.aload_n 0, 1) := by decide +kernel
theorem dX4_type_16 : decode cX4_type 16 = .ok (.getfield 33, 3) := by decide +kernel
theorem dX4_type_19 : decode cX4_type 19 = .ok (.iload_n 1, 1) := by decide +kernel
theorem dX4_type_20 : decode cX4_type 20 = .ok (.invokevirtual 129, 3) := by decide +kernel
theorem dX4_type_23 : decode cX4_type 23 = .ok (.aload_n 0, 1) := by decide +kernel
theorem dX4_type_24 : decode cX4_type 24 = .ok (.getfield 33, 3) := by decide +kernel
theorem dX4_type_27 : decode cX4_type 27 = .ok (.getfield 126, 3) := by decide +kernel
theorem dX4_type_30 : decode cX4_type 30 = .ok (.ireturn, 1) := by decide +kernel
theorem dX4_clearText_0 : decode cX4_clearText 0 = .ok (.aload_n 0, 1) := by decide +kernel
theorem dX4_clearText_1 : decode cX4_clearText 1 = .ok (.getfield 33, 3) := by decide +kernel
theorem dX4_clearText_4 : decode cX4_clearText 4 = .ok (.getfield 126, 3) := by decide +kernel
theorem dX4_clearText_7 : decode cX4_clearText 7 = .ok (.istore_n 1, 1) := by decide +kernel
theorem dX4_clearText_8 : decode cX4_clearText 8 = .ok (.aload_n 0, 1) := by decide +kernel
theorem dX4_clearText_9 : decode cX4_clearText 9 = .ok (.getfield 33, 3) := by decide +kernel
theorem dX4_clearText_12 : decode cX4_clearText 12 = .ok (.iconst 0, 1) := by decide +kernel
theorem dX4_clearText_13 : decode cX4_clearText 13 = .ok (.putfield 126, 3) := by decide +kernel
theorem dX4_clearText_16 : decode cX4_clearText 16 = .ok (.iload_n 1, 1) := by decide +kernel
theorem dX4_clearText_17 : decode cX4_clearText 17 = .ok (.ireturn, 1) := by decide +kernel
set_option maxRecDepth 20000 in
theorem ggX4_undo_X2_takeBack : GoodIn wsX4_undo wsX2_takeBack := goodIn_r _ [7, 8, 9, 10, 11, 6, 12, 13, 14, 15, 16, 17, 18, 19, 20, 21, 22, 23, 24, 25, 26, 27, 28, 29, 30, 37, 38, 39, 40, 41, 42, 43, 44, 45, 46, 47] (by decide +kernel) (by decide +kernel)
set_option maxRecDepth 20000 in
theorem gX4_undo_X2_takeBack : GoodIn wsX4_undo (wsV RX4 133 RX2 yX2_takeBack wsX2_takeBack) := goodIn_app (goodIn_of _ (by decide +kernel)) ggX4_undo_X2_takeBack
theorem dX4_undo_0 : decode cX4_undo 0 = .ok (.aload_n 0, 1) := by decide +kernel
theorem dX4_undo_1 : decode cX4_undo 1 = .ok (.getfield 26, 3) := by decide +kernel
theorem dX4_undo_4 : decode cX4_undo 4 = .ok (.getfield 132, 3) := by decide +kernel
theorem dX4_undo_7 : decode cX4_undo 7 = .ok (.ifCond .ne 6, 3) := by decide +kernel
theorem dX4_undo_10 : decode cX4_undo 10 = .ok (.bipush (-5), 2) := by decide +kernel
theorem dX4_undo_12 : decode cX4_undo 12 = .ok (.ireturn, 1) := by decide +kernel
theorem dX4_undo_13 : decode cX4_undo 13 = .ok (.aload_n 0, 1) := by decide +kernel
theorem dX4_undo_14 : decode cX4_undo 14 = .ok (.getfield 26, 3) := by decide +kernel
theorem dX4_undo_17 : decode cX4_undo 17 = .ok (.aload_n 0, 1) := by decide +kernel
theorem dX4_undo_18 : decode cX4_undo 18 = .ok (.getfield 12, 3) := by decide +kernel
theorem dX4_undo_21 : decode cX4_undo 21 = .ok (.invokevirtual 133, 3) := by decide +kernel
theorem dX4_undo_24 : decode cX4_undo 24 = .ok (.aload_n 0, 1) := by decide +kernel
theorem dX4_undo_25 : decode cX4_undo 25 = .ok (.getfield 26, 3) := by decide +kernel
theorem dX4_undo_28 : decode cX4_undo 28 = .ok (.getfield 132, 3) := by decide +kernel
theorem dX4_undo_31 : decode cX4_undo 31 = .ok (.ireturn, 1) := by decide +kernel
set_option maxRecDepth 20000 in
theorem ggX4_keep_X0_copyFrom : GoodIn wsX4_keep wsX0_copyFrom := goodIn_r _ [8, 9, 10, 11, 12, 13, 14, 15, 16, 17, 18, 19, 20, 27, 28, 29, 30, 31, 32, 33, 34, 35] (by decide +kernel) (by decide +kernel)
set_option maxRecDepth 20000 in
theorem gX4_keep_X0_copyFrom : GoodIn wsX4_keep (wsV RX4 136 RX0 yX0_copyFrom wsX0_copyFrom) := goodIn_app (goodIn_of _ (by decide +kernel)) ggX4_keep_X0_copyFrom
theorem dX4_keep_0 : decode cX4_keep 0 = .ok (.aload_n 0, 1) := by decide +kernel
theorem dX4_keep_1 : decode cX4_keep 1 = .ok (.getfield 16, 3) := by decide +kernel
theorem dX4_keep_4 : decode cX4_keep 4 = .ok (.aload_n 0, 1) := by decide +kernel
theorem dX4_keep_5 : decode cX4_keep 5 = .ok (.getfield 12, 3) := by decide +kernel
theorem dX4_keep_8 : decode cX4_keep 8 = .ok (.invokevirtual 136, 3) := by decide +kernel
theorem dX4_keep_11 : decode cX4_keep 11 = .ok (.aload_n 0, 1) := by decide +kernel
theorem dX4_keep_12 : decode cX4_keep 12 = .ok (.iconst 1, 1) := by decide +kernel
theorem dX4_keep_13 : decode cX4_keep 13 = .ok (.putfield 19, 3) := by decide +kernel
theorem dX4_keep_16 : decode cX4_keep 16 = .ok (.aload_n 0, 1) := by decide +kernel
theorem dX4_keep_17 : decode cX4_keep 17 = .ok (.getfield 12, 3) := by decide +kernel
theorem dX4_keep_20 : decode cX4_keep 20 = .ok (.getfield 75, 3) := by decide +kernel
theorem dX4_keep_23 : decode cX4_keep 23 = .ok (.ireturn, 1) := by decide +kernel
set_option maxRecDepth 20000 in
theorem ggX4_restore_X2_remember : GoodIn wsX4_restore wsX2_remember := goodIn_r _ [9, 10, 11, 12, 13, 8, 14, 15, 16, 17, 18, 19, 20, 21, 22, 23, 24, 25, 26, 27, 28, 29, 30, 31, 32, 33, 34, 35, 36, 53, 54, 44, 45, 46, 47, 48, 49, 50, 51, 52] (by decide +kernel) (by decide +kernel)
set_option maxRecDepth 20000 in
theorem gX4_restore_X2_remember : GoodIn wsX4_restore (wsV RX4 52 RX2 yX2_remember wsX2_remember) := goodIn_app (goodIn_of _ (by decide +kernel)) ggX4_restore_X2_remember
set_option maxRecDepth 20000 in
theorem ggX4_restore_X0_copyFrom : GoodIn wsX4_restore wsX0_copyFrom := goodIn_r _ [24, 25, 26, 27, 28, 29, 30, 31, 32, 33, 34, 35, 36, 44, 45, 46, 47, 48, 49, 50, 51, 52] (by decide +kernel) (by decide +kernel)
set_option maxRecDepth 20000 in
theorem gX4_restore_X0_copyFrom : GoodIn wsX4_restore (wsV RX4 136 RX0 yX0_copyFrom wsX0_copyFrom) := goodIn_app (goodIn_of _ (by decide +kernel)) ggX4_restore_X0_copyFrom
theorem dX4_restore_0 : decode cX4_restore 0 = .ok (.aload_n 0, 1) := by decide +kernel
theorem dX4_restore_1 : decode cX4_restore 1 = .ok (.getfield 19, 3) := by decide +kernel
theorem dX4_restore_4 : decode cX4_restore 4 = .ok (.ifCond .ne 6, 3) := by decide +kernel
theorem dX4_restore_7 : decode cX4_restore 7 = .ok (.bipush (-5), 2) := by decide +kernel
theorem dX4_restore_9 : decode cX4_restore 9 = .ok (.ireturn, 1) := by decide +kernel
theorem dX4_restore_10 : decode cX4_restore 10 = .ok (.aload_n 0, 1) := by decide +kernel
theorem dX4_restore_11 : decode cX4_restore 11 = .ok (.getfield 26, 3) := by decide +kernel
theorem dX4_restore_14 : decode cX4_restore 14 = .ok (.aload_n 0, 1) := by decide +kernel
theorem dX4_restore_15 : decode cX4_restore 15 = .ok (.getfield 12, 3) := by decide +kernel
theorem dX4_restore_18 : decode cX4_restore 18 = .ok (.invokevirtual 52, 3) := by decide +kernel
theorem dX4_restore_21 : decode cX4_restore 21 = .ok (.aload_n 0, 1) := by decide +kernel
theorem dX4_restore_22 : decode cX4_restore 22 = .ok (.getfield 12, 3) := by decide +kernel
theorem dX4_restore_25 : decode cX4_restore 25 = .ok (.aload_n 0, 1) := by decide +kernel
theorem dX4_restore_26 : decode cX4_restore 26 = .ok (.getfield 16, 3) := by decide +kernel
theorem dX4_restore_29 : decode cX4_restore 29 = .ok (.invokevirtual 136, 3) := by decide +kernel
theorem dX4_restore_32 : decode cX4_restore 32 = .ok (.aload_n 0, 1) := by decide +kernel
theorem dX4_restore_33 : decode cX4_restore 33 = .ok (.getfield 12, 3) := by decide +kernel
theorem dX4_restore_36 : decode cX4_restore 36 = .ok (.getfield 75, 3) := by decide +kernel
theorem dX4_restore_39 : decode cX4_restore 39 = .ok (.ireturn, 1) := by decide +kernel
set_option maxRecDepth 20000 in
theorem ggX4_panel_X0_slotOf : GoodIn wsX4_panel wsX0_slotOf := goodIn_r _ [6, 7, 8, 9, 10, 125, 126, 127, 128, 129, 130, 131, 132, 133] (by decide +kernel) (by decide +kernel)
set_option maxRecDepth 20000 in
theorem gX4_panel_X0_slotOf : GoodIn wsX4_panel (wsV RX4 60 RX0 yX0_slotOf wsX0_slotOf) := goodIn_app (goodIn_of _ (by decide +kernel)) ggX4_panel_X0_slotOf
set_option maxRecDepth 20000 in
theorem ggX4_panel_X0_sceneOf : GoodIn wsX4_panel wsX0_sceneOf := goodIn_r _ [14, 15, 8, 9, 10, 125, 126, 127, 128, 129, 130, 131, 132, 133] (by decide +kernel) (by decide +kernel)
set_option maxRecDepth 20000 in
theorem gX4_panel_X0_sceneOf : GoodIn wsX4_panel (wsV RX4 87 RX0 yX0_sceneOf wsX0_sceneOf) := goodIn_app (goodIn_of _ (by decide +kernel)) ggX4_panel_X0_sceneOf
set_option maxRecDepth 20000 in
theorem ggX4_panel_X0_durationOf : GoodIn wsX4_panel wsX0_durationOf := goodIn_r _ [19, 20, 8, 9, 10, 125, 126, 127, 128, 129, 130, 131, 132, 133] (by decide +kernel) (by decide +kernel)
set_option maxRecDepth 20000 in
theorem gX4_panel_X0_durationOf : GoodIn wsX4_panel (wsV RX4 113 RX0 yX0_durationOf wsX0_durationOf) := goodIn_app (goodIn_of _ (by decide +kernel)) ggX4_panel_X0_durationOf
set_option maxRecDepth 20000 in
theorem ggX4_panel_X0_eventsIn : GoodIn wsX4_panel wsX0_eventsIn := goodIn_r _ [24, 25, 8, 9, 10, 125, 126, 127, 128, 129, 130, 131, 132, 133] (by decide +kernel) (by decide +kernel)
set_option maxRecDepth 20000 in
theorem gX4_panel_X0_eventsIn : GoodIn wsX4_panel (wsV RX4 68 RX0 yX0_eventsIn wsX0_eventsIn) := goodIn_app (goodIn_of _ (by decide +kernel)) ggX4_panel_X0_eventsIn
set_option maxRecDepth 20000 in
theorem ggX4_panel_X0_placeOf : GoodIn wsX4_panel wsX0_placeOf := goodIn_r _ [29, 30, 31, 32, 5, 33, 34, 35, 8, 9, 10, 36, 12, 13, 14, 15, 37, 38, 39, 40, 41, 125, 126, 127, 128, 129, 130, 131, 132, 133] (by decide +kernel) (by decide +kernel)
set_option maxRecDepth 20000 in
theorem gX4_panel_X0_placeOf : GoodIn wsX4_panel (wsV RX4 90 RX0 yX0_placeOf wsX0_placeOf) := goodIn_app (goodIn_of _ (by decide +kernel)) ggX4_panel_X0_placeOf
set_option maxRecDepth 20000 in
theorem ggX4_panel_X0_rankOf : GoodIn wsX4_panel wsX0_rankOf := goodIn_r _ [33, 34, 35, 8, 9, 10, 125, 126, 127, 128, 129, 130, 131, 132, 133] (by decide +kernel) (by decide +kernel)
set_option maxRecDepth 20000 in
theorem gX4_panel_X0_rankOf : GoodIn wsX4_panel (wsV RX4 139 RX0 yX0_rankOf wsX0_rankOf) := goodIn_app (goodIn_of _ (by decide +kernel)) ggX4_panel_X0_rankOf
set_option maxRecDepth 20000 in
theorem ggX4_panel_X0_ticksAhead : GoodIn wsX4_panel wsX0_ticksAhead := goodIn_r _ [46, 34, 35, 8, 9, 10, 47, 17, 18, 5, 19, 20, 125, 126, 127, 128, 129, 130, 131, 132, 133] (by decide +kernel) (by decide +kernel)
set_option maxRecDepth 20000 in
theorem gX4_panel_X0_ticksAhead : GoodIn wsX4_panel (wsV RX4 142 RX0 yX0_ticksAhead wsX0_ticksAhead) := goodIn_app (goodIn_of _ (by decide +kernel)) ggX4_panel_X0_ticksAhead
set_option maxRecDepth 20000 in
theorem ggX4_panel_X4_breaksHaving : GoodIn wsX4_panel wsX4_breaksHaving := goodIn_r _ [51, 52, 53, 54, 55, 9, 56, 1, 57, 58, 59, 60, 61, 62, 63, 64, 65, 66, 67, 68, 69, 5, 70, 34, 35, 8, 10, 71, 12, 13, 14, 15, 72, 73, 74, 75, 76, 77, 78, 79, 80, 81, 7, 82, 22, 23, 24, 25, 83, 84, 85, 86, 87, 88, 89, 90, 91, 92, 93, 94, 95, 96, 97, 98, 99, 100, 101, 102, 103, 104, 105, 106, 107, 108, 109, 110, 111, 112, 113, 114, 115, 116, 117, 118, 119, 120, 121, 122, 123, 124, 125, 126, 127, 128, 129, 130, 131, 132, 133, 134, 135, 136, 137, 138, 139] (by decide +kernel) (by decide +kernel)
set_option maxRecDepth 20000 in
theorem gX4_panel_X4_breaksHaving : GoodIn wsX4_panel (wsV RX4 145 RX4 yX4_breaksHaving wsX4_breaksHaving) := goodIn_app (goodIn_of _ (by decide +kernel)) ggX4_panel_X4_breaksHaving
theorem dX4_panel_0 : decode cX4_panel 0 = .ok (.aload_n 0, 1) := by decide +kernel
theorem dX4_panel_1 : decode cX4_panel 1 = .ok (.getfield 12, 3) := by decide +kernel
theorem dX4_panel_4 : decode cX4_panel 4 = .ok (.iload_n 1, 1) := by decide +kernel
theorem dX4_panel_5 : decode cX4_panel 5 = .ok (.invokevirtual 60, 3) := by decide +kernel
theorem dX4_panel_8 : decode cX4_panel 8 = .ok (.istore_n 3, 1) := by decide +kernel
theorem dX4_panel_9 : decode cX4_panel 9 = .ok (.iload_n 3, 1) := by decide +kernel
theorem dX4_panel_10 : decode cX4_panel 10 = .ok (.iconst (-1), 1) := by decide +kernel
theorem dX4_panel_11 : decode cX4_panel 11 = .ok (.if_icmp .ne 5, 3) := by decide +kernel
theorem dX4_panel_14 : decode cX4_panel 14 = .ok (.iconst (-1), 1) := by decide +kernel
theorem dX4_panel_15 : decode cX4_panel 15 = .ok (.ireturn, 1) := by decide +kernel
theorem dX4_panel_16 : decode cX4_panel 16 = .ok (.iload_n 2, 1) := by decide +kernel
theorem dX4_panel_17 : decode cX4_panel 17 = .ok (.tableswitch 111 0 6 #[43, 52, 61, 70, 79, 95, 104], 43) := by decide +kernel
theorem dX4_panel_60 : decode cX4_panel 60 = .ok (.aload_n 0, 1) := by decide +kernel
theorem dX4_panel_61 : decode cX4_panel 61 = .ok (.getfield 12, 3) := by decide +kernel
theorem dX4_panel_64 : decode cX4_panel 64 = .ok (.iload_n 3, 1) := by decide +kernel
theorem dX4_panel_65 : decode cX4_panel 65 = .ok (.invokevirtual 87, 3) := by decide +kernel
theorem dX4_panel_68 : decode cX4_panel 68 = .ok (.ireturn, 1) := by decide +kernel
theorem dX4_panel_69 : decode cX4_panel 69 = .ok (.aload_n 0, 1) := by decide +kernel
theorem dX4_panel_70 : decode cX4_panel 70 = .ok (.getfield 12, 3) := by decide +kernel
theorem dX4_panel_73 : decode cX4_panel 73 = .ok (.iload_n 3, 1) := by decide +kernel
theorem dX4_panel_74 : decode cX4_panel 74 = .ok (.invokevirtual 113, 3) := by decide +kernel
theorem dX4_panel_77 : decode cX4_panel 77 = .ok (.ireturn, 1) := by decide +kernel
theorem dX4_panel_78 : decode cX4_panel 78 = .ok (.aload_n 0, 1) := by decide +kernel
theorem dX4_panel_79 : decode cX4_panel 79 = .ok (.getfield 12, 3) := by decide +kernel
theorem dX4_panel_82 : decode cX4_panel 82 = .ok (.iload_n 3, 1) := by decide +kernel
theorem dX4_panel_83 : decode cX4_panel 83 = .ok (.invokevirtual 68, 3) := by decide +kernel
theorem dX4_panel_86 : decode cX4_panel 86 = .ok (.ireturn, 1) := by decide +kernel
theorem dX4_panel_87 : decode cX4_panel 87 = .ok (.aload_n 0, 1) := by decide +kernel
theorem dX4_panel_88 : decode cX4_panel 88 = .ok (.getfield 12, 3) := by decide +kernel
theorem dX4_panel_91 : decode cX4_panel 91 = .ok (.iload_n 3, 1) := by decide +kernel
theorem dX4_panel_92 : decode cX4_panel 92 = .ok (.invokevirtual 90, 3) := by decide +kernel
theorem dX4_panel_95 : decode cX4_panel 95 = .ok (.ireturn, 1) := by decide +kernel
theorem dX4_panel_96 : decode cX4_panel 96 = .ok (.aload_n 0, 1) := by decide +kernel
theorem dX4_panel_97 : decode cX4_panel 97 = .ok (.getfield 12, 3) := by decide +kernel
theorem dX4_panel_100 : decode cX4_panel 100 = .ok (.aload_n 0, 1) := by decide +kernel
theorem dX4_panel_101 : decode cX4_panel 101 = .ok (.getfield 12, 3) := by decide +kernel
theorem dX4_panel_104 : decode cX4_panel 104 = .ok (.iload_n 3, 1) := by decide +kernel
theorem dX4_panel_105 : decode cX4_panel 105 = .ok (.invokevirtual 139, 3) := by decide +kernel
theorem dX4_panel_108 : decode cX4_panel 108 = .ok (.invokevirtual 142, 3) := by decide +kernel
theorem dX4_panel_111 : decode cX4_panel 111 = .ok (.ireturn, 1) := by decide +kernel
theorem dX4_panel_112 : decode cX4_panel 112 = .ok (.aload_n 0, 1) := by decide +kernel
theorem dX4_panel_113 : decode cX4_panel 113 = .ok (.getfield 12, 3) := by decide +kernel
theorem dX4_panel_116 : decode cX4_panel 116 = .ok (.iload_n 3, 1) := by decide +kernel
theorem dX4_panel_117 : decode cX4_panel 117 = .ok (.invokevirtual 139, 3) := by decide +kernel
theorem dX4_panel_120 : decode cX4_panel 120 = .ok (.ireturn, 1) := by decide +kernel
theorem dX4_panel_121 : decode cX4_panel 121 = .ok (.aload_n 0, 1) := by decide +kernel
theorem dX4_panel_122 : decode cX4_panel 122 = .ok (.iconst 0, 1) := by decide +kernel
theorem dX4_panel_123 : decode cX4_panel 123 = .ok (.iload_n 1, 1) := by decide +kernel
theorem dX4_panel_124 : decode cX4_panel 124 = .ok (.invokevirtual 145, 3) := by decide +kernel
theorem dX4_panel_127 : decode cX4_panel 127 = .ok (.ireturn, 1) := by decide +kernel
theorem dX4_panel_128 : decode cX4_panel 128 = .ok (.bipush (-2), 2) := by decide +kernel
theorem dX4_panel_130 : decode cX4_panel 130 = .ok (.ireturn, 1) := by decide +kernel
set_option maxRecDepth 20000 in
theorem ggX4_event_X0_slotOf : GoodIn wsX4_event wsX0_slotOf := goodIn_r _ [6, 7, 8, 9, 10, 39, 40, 41, 42, 43, 44, 45, 46, 47] (by decide +kernel) (by decide +kernel)
set_option maxRecDepth 20000 in
theorem gX4_event_X0_slotOf : GoodIn wsX4_event (wsV RX4 60 RX0 yX0_slotOf wsX0_slotOf) := goodIn_app (goodIn_of _ (by decide +kernel)) ggX4_event_X0_slotOf
set_option maxRecDepth 20000 in
theorem ggX4_event_X0_eventsIn : GoodIn wsX4_event wsX0_eventsIn := goodIn_r _ [14, 15, 8, 9, 10, 39, 40, 41, 42, 43, 44, 45, 46, 47] (by decide +kernel) (by decide +kernel)
set_option maxRecDepth 20000 in
theorem gX4_event_X0_eventsIn : GoodIn wsX4_event (wsV RX4 68 RX0 yX0_eventsIn wsX0_eventsIn) := goodIn_app (goodIn_of _ (by decide +kernel)) ggX4_event_X0_eventsIn
set_option maxRecDepth 20000 in
theorem ggX4_event_X0_eventCode : GoodIn wsX4_event wsX0_eventCode := goodIn_r _ [19, 20, 8, 9, 10, 39, 40, 41, 42, 43, 44, 45, 46, 47] (by decide +kernel) (by decide +kernel)
set_option maxRecDepth 20000 in
theorem gX4_event_X0_eventCode : GoodIn wsX4_event (wsV RX4 148 RX0 yX0_eventCode wsX0_eventCode) := goodIn_app (goodIn_of _ (by decide +kernel)) ggX4_event_X0_eventCode
set_option maxRecDepth 20000 in
theorem ggX4_event_X4_characterIn : GoodIn wsX4_event wsX4_characterIn := goodIn_r _ [23] (by decide +kernel) (by decide +kernel)
set_option maxRecDepth 20000 in
theorem gX4_event_X4_characterIn : GoodIn wsX4_event (va_wsS RX4 151 yX4_characterIn wsX4_characterIn) := goodIn_app (goodIn_of _ (by decide +kernel)) ggX4_event_X4_characterIn
set_option maxRecDepth 20000 in
theorem ggX4_event_X4_kindIn : GoodIn wsX4_event wsX4_kindIn := goodIn_r _ [26] (by decide +kernel) (by decide +kernel)
set_option maxRecDepth 20000 in
theorem gX4_event_X4_kindIn : GoodIn wsX4_event (va_wsS RX4 154 yX4_kindIn wsX4_kindIn) := goodIn_app (goodIn_of _ (by decide +kernel)) ggX4_event_X4_kindIn
set_option maxRecDepth 20000 in
theorem ggX4_event_X4_takesProp : GoodIn wsX4_event wsX4_takesProp := goodIn_r _ [29] (by decide +kernel) (by decide +kernel)
set_option maxRecDepth 20000 in
theorem gX4_event_X4_takesProp : GoodIn wsX4_event (va_wsS RX4 157 yX4_takesProp wsX4_takesProp) := goodIn_app (goodIn_of _ (by decide +kernel)) ggX4_event_X4_takesProp
set_option maxRecDepth 20000 in
theorem ggX4_event_X4_propIn : GoodIn wsX4_event wsX4_propIn := goodIn_r _ [32] (by decide +kernel) (by decide +kernel)
set_option maxRecDepth 20000 in
theorem gX4_event_X4_propIn : GoodIn wsX4_event (va_wsS RX4 160 yX4_propIn wsX4_propIn) := goodIn_app (goodIn_of _ (by decide +kernel)) ggX4_event_X4_propIn
theorem dX4_event_0 : decode cX4_event 0 = .ok (.aload_n 0, 1) := by decide +kernel
theorem dX4_event_1 : decode cX4_event 1 = .ok (.getfield 12, 3) := by decide +kernel
theorem dX4_event_4 : decode cX4_event 4 = .ok (.iload_n 1, 1) := by decide +kernel
theorem dX4_event_5 : decode cX4_event 5 = .ok (.invokevirtual 60, 3) := by decide +kernel
theorem dX4_event_8 : decode cX4_event 8 = .ok (.istore 4, 2) := by decide +kernel
theorem dX4_event_10 : decode cX4_event 10 = .ok (.iload 4, 2) := by decide +kernel
theorem dX4_event_12 : decode cX4_event 12 = .ok (.iconst (-1), 1) := by decide +kernel
theorem dX4_event_13 : decode cX4_event 13 = .ok (.if_icmp .eq 20, 3) := by decide +kernel
theorem dX4_event_16 : decode cX4_event 16 = .ok (.iload_n 2, 1) := by decide +kernel
theorem dX4_event_17 : decode cX4_event 17 = .ok (.ifCond .lt 16, 3) := by decide +kernel
theorem dX4_event_20 : decode cX4_event 20 = .ok (.iload_n 2, 1) := by decide +kernel
theorem dX4_event_21 : decode cX4_event 21 = .ok (.aload_n 0, 1) := by decide +kernel
theorem dX4_event_22 : decode cX4_event 22 = .ok (.getfield 12, 3) := by decide +kernel
theorem dX4_event_25 : decode cX4_event 25 = .ok (.iload 4, 2) := by decide +kernel
theorem dX4_event_27 : decode cX4_event 27 = .ok (.invokevirtual 68, 3) := by decide +kernel
theorem dX4_event_30 : decode cX4_event 30 = .ok (.if_icmp .lt 5, 3) := by decide +kernel
theorem dX4_event_33 : decode cX4_event 33 = .ok (.iconst (-1), 1) := by decide +kernel
theorem dX4_event_34 : decode cX4_event 34 = .ok (.ireturn, 1) := by decide +kernel
theorem dX4_event_35 : decode cX4_event 35 = .ok (.aload_n 0, 1) := by decide +kernel
theorem dX4_event_36 : decode cX4_event 36 = .ok (.getfield 12, 3) := by decide +kernel
theorem dX4_event_39 : decode cX4_event 39 = .ok (.iload 4, 2) := by decide +kernel
theorem dX4_event_41 : decode cX4_event 41 = .ok (.iload_n 2, 1) := by decide +kernel
theorem dX4_event_42 : decode cX4_event 42 = .ok (.invokevirtual 148, 3) := by decide +kernel
theorem dX4_event_45 : decode cX4_event 45 = .ok (.istore 5, 2) := by decide +kernel
theorem dX4_event_47 : decode cX4_event 47 = .ok (.iload_n 3, 1) := by decide +kernel
theorem dX4_event_48 : decode cX4_event 48 = .ok (.tableswitch 62 0 2 #[28, 34, 40], 28) := by decide +kernel
theorem dX4_event_76 : decode cX4_event 76 = .ok (.iload 5, 2) := by decide +kernel
theorem dX4_event_78 : decode cX4_event 78 = .ok (.invokestatic 151, 3) := by decide +kernel
theorem dX4_event_81 : decode cX4_event 81 = .ok (.ireturn, 1) := by decide +kernel
theorem dX4_event_82 : decode cX4_event 82 = .ok (.iload 5, 2) := by decide +kernel
theorem dX4_event_84 : decode cX4_event 84 = .ok (.invokestatic 154, 3) := by decide +kernel
theorem dX4_event_87 : decode cX4_event 87 = .ok (.ireturn, 1) := by decide +kernel
theorem dX4_event_88 : decode cX4_event 88 = .ok (.iload 5, 2) := by decide +kernel
theorem dX4_event_90 : decode cX4_event 90 = .ok (.invokestatic 154, 3) := by decide +kernel
theorem dX4_event_93 : decode cX4_event 93 = .ok (.invokestatic 157, 3) := by decide +kernel
theorem dX4_event_96 : decode cX4_event 96 = .ok (.ifCond .eq 11, 3) := by decide +kernel
theorem dX4_event_99 : decode cX4_event 99 = .ok (.iload 5, 2) := by decide +kernel
theorem dX4_event_101 : decode cX4_event 101 = .ok (.invokestatic 160, 3) := by decide +kernel
theorem dX4_event_104 : decode cX4_event 104 = .ok (.goto 5, 3) := by decide +kernel
theorem dX4_event_107 : decode cX4_event 107 = .ok (.bipush (-5), 2) := by decide +kernel
theorem dX4_event_109 : decode cX4_event 109 = .ok (.ireturn, 1) := by decide +kernel
theorem dX4_event_110 : decode cX4_event 110 = .ok (.bipush (-2), 2) := by decide +kernel
theorem dX4_event_112 : decode cX4_event 112 = .ok (.ireturn, 1) := by decide +kernel
set_option maxRecDepth 20000 in
theorem ggX4_at_X0_slotAt : GoodIn wsX4_at wsX0_slotAt := goodIn_r _ [6, 7, 8, 9, 10, 11, 23, 24, 25, 26, 27, 28, 29, 30, 31] (by decide +kernel) (by decide +kernel)
set_option maxRecDepth 20000 in
theorem gX4_at_X0_slotAt : GoodIn wsX4_at (wsV RX4 163 RX0 yX0_slotAt wsX0_slotAt) := goodIn_app (goodIn_of _ (by decide +kernel)) ggX4_at_X0_slotAt
set_option maxRecDepth 20000 in
theorem ggX4_at_X0_numberOf : GoodIn wsX4_at wsX0_numberOf := goodIn_r _ [15, 16, 9, 10, 11, 23, 24, 25, 26, 27, 28, 29, 30, 31] (by decide +kernel) (by decide +kernel)
set_option maxRecDepth 20000 in
theorem gX4_at_X0_numberOf : GoodIn wsX4_at (wsV RX4 166 RX0 yX0_numberOf wsX0_numberOf) := goodIn_app (goodIn_of _ (by decide +kernel)) ggX4_at_X0_numberOf
theorem dX4_at_0 : decode cX4_at 0 = .ok (.iload_n 1, 1) := by decide +kernel
theorem dX4_at_1 : decode cX4_at 1 = .ok (.ifCond .ge 6, 3) := by decide +kernel
theorem dX4_at_4 : decode cX4_at 4 = .ok (.bipush (-2), 2) := by decide +kernel
theorem dX4_at_6 : decode cX4_at 6 = .ok (.ireturn, 1) := by decide +kernel
theorem dX4_at_7 : decode cX4_at 7 = .ok (.iload_n 1, 1) := by decide +kernel
theorem dX4_at_8 : decode cX4_at 8 = .ok (.aload_n 0, 1) := by decide +kernel
theorem dX4_at_9 : decode cX4_at 9 = .ok (.getfield 12, 3) := by decide +kernel
theorem dX4_at_12 : decode cX4_at 12 = .ok (.getfield 75, 3) := by decide +kernel
theorem dX4_at_15 : decode cX4_at 15 = .ok (.if_icmp .lt 6, 3) := by decide +kernel
theorem dX4_at_18 : decode cX4_at 18 = .ok (.bipush (-5), 2) := by decide +kernel
theorem dX4_at_20 : decode cX4_at 20 = .ok (.ireturn, 1) := by decide +kernel
theorem dX4_at_21 : decode cX4_at 21 = .ok (.aload_n 0, 1) := by decide +kernel
theorem dX4_at_22 : decode cX4_at 22 = .ok (.getfield 12, 3) := by decide +kernel
theorem dX4_at_25 : decode cX4_at 25 = .ok (.aload_n 0, 1) := by decide +kernel
theorem dX4_at_26 : decode cX4_at 26 = .ok (.getfield 12, 3) := by decide +kernel
theorem dX4_at_29 : decode cX4_at 29 = .ok (.iload_n 1, 1) := by decide +kernel
theorem dX4_at_30 : decode cX4_at 30 = .ok (.invokevirtual 163, 3) := by decide +kernel
theorem dX4_at_33 : decode cX4_at 33 = .ok (.invokevirtual 166, 3) := by decide +kernel
theorem dX4_at_36 : decode cX4_at 36 = .ok (.ireturn, 1) := by decide +kernel
set_option maxRecDepth 20000 in
theorem ggX4_scene_X4_isScene : GoodIn wsX4_scene wsX4_isScene := goodIn_r _ [5] (by decide +kernel) (by decide +kernel)
set_option maxRecDepth 20000 in
theorem gX4_scene_X4_isScene : GoodIn wsX4_scene (va_wsS RX4 79 yX4_isScene wsX4_isScene) := goodIn_app (goodIn_of _ (by decide +kernel)) ggX4_scene_X4_isScene
set_option maxRecDepth 20000 in
theorem ggX4_scene_X0_placeOfScene : GoodIn wsX4_scene wsX0_placeOfScene := goodIn_r _ [10, 11, 12, 4, 13, 132, 133, 134, 135, 136, 137, 138, 139, 140] (by decide +kernel) (by decide +kernel)
set_option maxRecDepth 20000 in
theorem gX4_scene_X0_placeOfScene : GoodIn wsX4_scene (wsV RX4 106 RX0 yX0_placeOfScene wsX0_placeOfScene) := goodIn_app (goodIn_of _ (by decide +kernel)) ggX4_scene_X0_placeOfScene
set_option maxRecDepth 20000 in
theorem ggX4_scene_X0_panelsIn : GoodIn wsX4_scene wsX0_panelsIn := goodIn_r _ [17, 18, 19, 20, 12, 4, 13, 132, 133, 134, 135, 136, 137, 138, 139, 140] (by decide +kernel) (by decide +kernel)
set_option maxRecDepth 20000 in
theorem gX4_scene_X0_panelsIn : GoodIn wsX4_scene (wsV RX4 169 RX0 yX0_panelsIn wsX0_panelsIn) := goodIn_app (goodIn_of _ (by decide +kernel)) ggX4_scene_X0_panelsIn
set_option maxRecDepth 20000 in
theorem ggX4_scene_X4_ticksOfScene : GoodIn wsX4_scene wsX4_ticksOfScene := goodIn_r _ [24, 1, 25, 26, 27, 9, 28, 11, 18, 19, 20, 12, 4, 13, 14, 15, 16, 17, 29, 30, 31, 32, 33, 34, 35, 36, 37, 126, 127, 128, 129, 130, 131, 132, 133, 134, 135, 136, 137, 138, 139, 140] (by decide +kernel) (by decide +kernel)
set_option maxRecDepth 20000 in
theorem gX4_scene_X4_ticksOfScene : GoodIn wsX4_scene (wsV RX4 172 RX4 yX4_ticksOfScene wsX4_ticksOfScene) := goodIn_app (goodIn_of _ (by decide +kernel)) ggX4_scene_X4_ticksOfScene
set_option maxRecDepth 20000 in
theorem ggX4_scene_X4_breaksOfScene : GoodIn wsX4_scene wsX4_breaksOfScene := goodIn_r _ [41, 42, 43, 44, 4, 45, 46, 1, 47, 48, 49, 50, 51, 52, 53, 54, 55, 56, 57, 58, 59, 9, 60, 18, 20, 12, 13, 61, 62, 63, 64, 19, 65, 66, 67, 68, 69, 70, 71, 72, 73, 74, 75, 76, 77, 78, 79, 80, 81, 82, 83, 84, 85, 86, 87, 88, 89, 90, 91, 92, 93, 94, 95, 96, 97, 98, 99, 100, 101, 102, 103, 104, 105, 106, 107, 108, 109, 110, 111, 112, 113, 114, 115, 116, 117, 118, 119, 120, 121, 122, 123, 124, 125, 126, 127, 128, 129, 130, 131, 132, 133, 134, 135, 136, 137, 138, 139, 140, 141, 142, 143, 144, 145, 146] (by decide +kernel) (by decide +kernel)
set_option maxRecDepth 20000 in
theorem gX4_scene_X4_breaksOfScene : GoodIn wsX4_scene (wsV RX4 175 RX4 yX4_breaksOfScene wsX4_breaksOfScene) := goodIn_app (goodIn_of _ (by decide +kernel)) ggX4_scene_X4_breaksOfScene
set_option maxRecDepth 20000 in
theorem ggX4_scene_X0_panelsAhead : GoodIn wsX4_scene wsX0_panelsAhead := goodIn_r _ [28, 11, 18, 19, 20, 12, 4, 13, 132, 133, 134, 135, 136, 137, 138, 139, 140] (by decide +kernel) (by decide +kernel)
set_option maxRecDepth 20000 in
theorem gX4_scene_X0_panelsAhead : GoodIn wsX4_scene (wsV RX4 178 RX0 yX0_panelsAhead wsX0_panelsAhead) := goodIn_app (goodIn_of _ (by decide +kernel)) ggX4_scene_X0_panelsAhead
set_option maxRecDepth 20000 in
theorem ggX4_scene_X0_ticksAhead : GoodIn wsX4_scene wsX0_ticksAhead := goodIn_r _ [32, 18, 20, 12, 4, 13, 33, 34, 35, 9, 36, 37, 132, 133, 134, 135, 136, 137, 138, 139, 140] (by decide +kernel) (by decide +kernel)
set_option maxRecDepth 20000 in
theorem gX4_scene_X0_ticksAhead : GoodIn wsX4_scene (wsV RX4 142 RX0 yX0_ticksAhead wsX0_ticksAhead) := goodIn_app (goodIn_of _ (by decide +kernel)) ggX4_scene_X0_ticksAhead
theorem dX4_scene_0 : decode cX4_scene 0 = .ok (.iload_n 1, 1) := by decide +kernel
theorem dX4_scene_1 : decode cX4_scene 1 = .ok (.invokestatic 79, 3) := by decide +kernel
theorem dX4_scene_4 : decode cX4_scene 4 = .ok (.ifCond .ne 5, 3) := by decide +kernel
theorem dX4_scene_7 : decode cX4_scene 7 = .ok (.iconst (-1), 1) := by decide +kernel
theorem dX4_scene_8 : decode cX4_scene 8 = .ok (.ireturn, 1) := by decide +kernel
theorem dX4_scene_9 : decode cX4_scene 9 = .ok (.iload_n 2, 1) := by decide +kernel
theorem dX4_scene_10 : decode cX4_scene 10 = .ok (.tableswitch 80 0 4 #[34, 43, 52, 58, 64], 34) := by decide +kernel
theorem dX4_scene_44 : decode cX4_scene 44 = .ok (.aload_n 0, 1) := by decide +kernel
theorem dX4_scene_45 : decode cX4_scene 45 = .ok (.getfield 12, 3) := by decide +kernel
theorem dX4_scene_48 : decode cX4_scene 48 = .ok (.iload_n 1, 1) := by decide +kernel
theorem dX4_scene_49 : decode cX4_scene 49 = .ok (.invokevirtual 106, 3) := by decide +kernel
theorem dX4_scene_52 : decode cX4_scene 52 = .ok (.ireturn, 1) := by decide +kernel
theorem dX4_scene_53 : decode cX4_scene 53 = .ok (.aload_n 0, 1) := by decide +kernel
theorem dX4_scene_54 : decode cX4_scene 54 = .ok (.getfield 12, 3) := by decide +kernel
theorem dX4_scene_57 : decode cX4_scene 57 = .ok (.iload_n 1, 1) := by decide +kernel
theorem dX4_scene_58 : decode cX4_scene 58 = .ok (.invokevirtual 169, 3) := by decide +kernel
theorem dX4_scene_61 : decode cX4_scene 61 = .ok (.ireturn, 1) := by decide +kernel
theorem dX4_scene_62 : decode cX4_scene 62 = .ok (.aload_n 0, 1) := by decide +kernel
theorem dX4_scene_63 : decode cX4_scene 63 = .ok (.iload_n 1, 1) := by decide +kernel
theorem dX4_scene_64 : decode cX4_scene 64 = .ok (.invokevirtual 172, 3) := by decide +kernel
theorem dX4_scene_67 : decode cX4_scene 67 = .ok (.ireturn, 1) := by decide +kernel
theorem dX4_scene_68 : decode cX4_scene 68 = .ok (.aload_n 0, 1) := by decide +kernel
theorem dX4_scene_69 : decode cX4_scene 69 = .ok (.iload_n 1, 1) := by decide +kernel
theorem dX4_scene_70 : decode cX4_scene 70 = .ok (.invokevirtual 175, 3) := by decide +kernel
theorem dX4_scene_73 : decode cX4_scene 73 = .ok (.ireturn, 1) := by decide +kernel
theorem dX4_scene_74 : decode cX4_scene 74 = .ok (.aload_n 0, 1) := by decide +kernel
theorem dX4_scene_75 : decode cX4_scene 75 = .ok (.getfield 12, 3) := by decide +kernel
theorem dX4_scene_78 : decode cX4_scene 78 = .ok (.aload_n 0, 1) := by decide +kernel
theorem dX4_scene_79 : decode cX4_scene 79 = .ok (.getfield 12, 3) := by decide +kernel
theorem dX4_scene_82 : decode cX4_scene 82 = .ok (.iload_n 1, 1) := by decide +kernel
theorem dX4_scene_83 : decode cX4_scene 83 = .ok (.invokevirtual 178, 3) := by decide +kernel
theorem dX4_scene_86 : decode cX4_scene 86 = .ok (.invokevirtual 142, 3) := by decide +kernel
theorem dX4_scene_89 : decode cX4_scene 89 = .ok (.ireturn, 1) := by decide +kernel
theorem dX4_scene_90 : decode cX4_scene 90 = .ok (.bipush (-2), 2) := by decide +kernel
theorem dX4_scene_92 : decode cX4_scene 92 = .ok (.ireturn, 1) := by decide +kernel
set_option maxRecDepth 20000 in
theorem ggX4_holder_X0_slotOf : GoodIn wsX4_holder wsX0_slotOf := goodIn_r _ [7, 8, 9, 10, 11, 94, 95, 96, 97, 98, 99, 100, 101, 102] (by decide +kernel) (by decide +kernel)
set_option maxRecDepth 20000 in
theorem gX4_holder_X0_slotOf : GoodIn wsX4_holder (wsV RX4 60 RX0 yX0_slotOf wsX0_slotOf) := goodIn_app (goodIn_of _ (by decide +kernel)) ggX4_holder_X0_slotOf
set_option maxRecDepth 20000 in
theorem ggX4_holder_X0_rankOf : GoodIn wsX4_holder wsX0_rankOf := goodIn_r _ [15, 16, 17, 9, 10, 11, 94, 95, 96, 97, 98, 99, 100, 101, 102] (by decide +kernel) (by decide +kernel)
set_option maxRecDepth 20000 in
theorem gX4_holder_X0_rankOf : GoodIn wsX4_holder (wsV RX4 139 RX0 yX0_rankOf wsX0_rankOf) := goodIn_app (goodIn_of _ (by decide +kernel)) ggX4_holder_X0_rankOf
set_option maxRecDepth 20000 in
theorem ggX4_holder_X1_goThrough : GoodIn wsX4_holder wsX1_goThrough := goodIn_r _ [22, 23, 24, 25, 26, 10, 27, 28, 29, 30, 6, 31, 16, 17, 9, 11, 32, 33, 34, 35, 36, 37, 38, 39, 21, 40, 41, 42, 43, 44, 45, 46, 8, 47, 48, 49, 50, 51, 52, 53, 54, 55, 56, 57, 58, 59, 60, 61, 62, 63, 64, 65, 66, 67, 68, 69, 70, 71, 72, 73, 74, 75, 76, 77, 78, 79, 80, 81, 82, 83, 103, 104, 105, 106, 107, 108, 94, 95, 96, 97, 98, 99, 100, 101, 102] (by decide +kernel) (by decide +kernel)
set_option maxRecDepth 20000 in
theorem gX4_holder_X1_goThrough : GoodIn wsX4_holder (wsV RX4 181 RX1 yX1_goThrough wsX1_goThrough) := goodIn_app (goodIn_of _ (by decide +kernel)) ggX4_holder_X1_goThrough
set_option maxRecDepth 20000 in
theorem ggX4_holder_X1_holderOf : GoodIn wsX4_holder wsX1_holderOf := goodIn_r _ [87, 23, 9, 10, 11, 103, 104, 105, 106, 107, 108] (by decide +kernel) (by decide +kernel)
set_option maxRecDepth 20000 in
theorem gX4_holder_X1_holderOf : GoodIn wsX4_holder (wsV RX4 185 RX1 yX1_holderOf wsX1_holderOf) := goodIn_app (goodIn_of _ (by decide +kernel)) ggX4_holder_X1_holderOf
theorem dX4_holder_0 : decode cX4_holder 0 = .ok (.aload_n 0, 1) := by decide +kernel
theorem dX4_holder_1 : decode cX4_holder 1 = .ok (.getfield 12, 3) := by decide +kernel
theorem dX4_holder_4 : decode cX4_holder 4 = .ok (.iload_n 2, 1) := by decide +kernel
theorem dX4_holder_5 : decode cX4_holder 5 = .ok (.invokevirtual 60, 3) := by decide +kernel
theorem dX4_holder_8 : decode cX4_holder 8 = .ok (.istore_n 3, 1) := by decide +kernel
theorem dX4_holder_9 : decode cX4_holder 9 = .ok (.iload_n 3, 1) := by decide +kernel
theorem dX4_holder_10 : decode cX4_holder 10 = .ok (.iconst (-1), 1) := by decide +kernel
theorem dX4_holder_11 : decode cX4_holder 11 = .ok (.if_icmp .eq 13, 3) := by decide +kernel
theorem dX4_holder_14 : decode cX4_holder 14 = .ok (.iload_n 1, 1) := by decide +kernel
theorem dX4_holder_15 : decode cX4_holder 15 = .ok (.ifCond .lt 9, 3) := by decide +kernel
theorem dX4_holder_18 : decode cX4_holder 18 = .ok (.iload_n 1, 1) := by decide +kernel
theorem dX4_holder_19 : decode cX4_holder 19 = .ok (.bipush 10, 2) := by decide +kernel
theorem dX4_holder_21 : decode cX4_holder 21 = .ok (.if_icmp .lt 5, 3) := by decide +kernel
theorem dX4_holder_24 : decode cX4_holder 24 = .ok (.iconst (-1), 1) := by decide +kernel
theorem dX4_holder_25 : decode cX4_holder 25 = .ok (.ireturn, 1) := by decide +kernel
theorem dX4_holder_26 : decode cX4_holder 26 = .ok (.aload_n 0, 1) := by decide +kernel
theorem dX4_holder_27 : decode cX4_holder 27 = .ok (.getfield 40, 3) := by decide +kernel
theorem dX4_holder_30 : decode cX4_holder 30 = .ok (.aload_n 0, 1) := by decide +kernel
theorem dX4_holder_31 : decode cX4_holder 31 = .ok (.getfield 12, 3) := by decide +kernel
theorem dX4_holder_34 : decode cX4_holder 34 = .ok (.aload_n 0, 1) := by decide +kernel
theorem dX4_holder_35 : decode cX4_holder 35 = .ok (.getfield 12, 3) := by decide +kernel
theorem dX4_holder_38 : decode cX4_holder 38 = .ok (.iload_n 3, 1) := by decide +kernel
theorem dX4_holder_39 : decode cX4_holder 39 = .ok (.invokevirtual 139, 3) := by decide +kernel
theorem dX4_holder_42 : decode cX4_holder 42 = .ok (.iconst 1, 1) := by decide +kernel
theorem dX4_holder_43 : decode cX4_holder 43 = .ok (.iadd, 1) := by decide +kernel
theorem dX4_holder_44 : decode cX4_holder 44 = .ok (.invokevirtual 181, 3) := by decide +kernel
theorem dX4_holder_47 : decode cX4_holder 47 = .ok (.aload_n 0, 1) := by decide +kernel
theorem dX4_holder_48 : decode cX4_holder 48 = .ok (.getfield 40, 3) := by decide +kernel
theorem dX4_holder_51 : decode cX4_holder 51 = .ok (.iload_n 1, 1) := by decide +kernel
theorem dX4_holder_52 : decode cX4_holder 52 = .ok (.invokevirtual 185, 3) := by decide +kernel
theorem dX4_holder_55 : decode cX4_holder 55 = .ok (.istore 4, 2) := by decide +kernel
theorem dX4_holder_57 : decode cX4_holder 57 = .ok (.iload 4, 2) := by decide +kernel
theorem dX4_holder_59 : decode cX4_holder 59 = .ok (.iconst (-1), 1) := by decide +kernel
theorem dX4_holder_60 : decode cX4_holder 60 = .ok (.if_icmp .ne 8, 3) := by decide +kernel
theorem dX4_holder_63 : decode cX4_holder 63 = .ok (.bipush (-5), 2) := by decide +kernel
theorem dX4_holder_65 : decode cX4_holder 65 = .ok (.goto 5, 3) := by decide +kernel
theorem dX4_holder_68 : decode cX4_holder 68 = .ok (.iload 4, 2) := by decide +kernel
theorem dX4_holder_70 : decode cX4_holder 70 = .ok (.ireturn, 1) := by decide +kernel
set_option maxRecDepth 20000 in
theorem ggX4_breakOf_X4_breaksNow : GoodIn wsX4_breakOf wsX4_breaksNow := goodIn_r _ [6, 1, 7, 8, 9, 10, 11, 12, 13, 14, 15, 16, 5, 17, 18, 19, 20, 21, 22, 23, 24, 25, 26, 27, 28, 29, 30, 31, 32, 33, 34, 35, 36, 37, 38, 39, 40, 41, 42, 43, 44, 45, 46, 47, 48, 49, 50, 51, 52, 53, 54, 55, 56, 57, 58, 59, 60, 61, 62, 63, 64, 65, 66, 67, 68, 69, 70, 71, 72, 73, 74, 75, 76, 77, 78, 79, 84, 85, 86, 87, 88, 89, 90, 91, 92, 93, 94, 95, 96, 97, 98, 99, 100, 101, 102, 103, 104] (by decide +kernel) (by decide +kernel)
set_option maxRecDepth 20000 in
theorem gX4_breakOf_X4_breaksNow : GoodIn wsX4_breakOf (wsV RX4 100 RX4 yX4_breaksNow wsX4_breaksNow) := goodIn_app (goodIn_of _ (by decide +kernel)) ggX4_breakOf_X4_breaksNow
set_option maxRecDepth 20000 in
theorem ggX4_breakOf_X1_numberOfBreak : GoodIn wsX4_breakOf wsX1_numberOfBreak := goodIn_r _ [83, 69, 25, 5, 26, 99, 100, 101, 102, 103, 104] (by decide +kernel) (by decide +kernel)
set_option maxRecDepth 20000 in
theorem gX4_breakOf_X1_numberOfBreak : GoodIn wsX4_breakOf (wsV RX4 188 RX1 yX1_numberOfBreak wsX1_numberOfBreak) := goodIn_app (goodIn_of _ (by decide +kernel)) ggX4_breakOf_X1_numberOfBreak
theorem dX4_breakOf_0 : decode cX4_breakOf 0 = .ok (.iload_n 1, 1) := by decide +kernel
theorem dX4_breakOf_1 : decode cX4_breakOf 1 = .ok (.ifCond .lt 12, 3) := by decide +kernel
theorem dX4_breakOf_4 : decode cX4_breakOf 4 = .ok (.iload_n 2, 1) := by decide +kernel
theorem dX4_breakOf_5 : decode cX4_breakOf 5 = .ok (.ifCond .lt 8, 3) := by decide +kernel
theorem dX4_breakOf_8 : decode cX4_breakOf 8 = .ok (.iload_n 2, 1) := by decide +kernel
theorem dX4_breakOf_9 : decode cX4_breakOf 9 = .ok (.iconst 5, 1) := by decide +kernel
theorem dX4_breakOf_10 : decode cX4_breakOf 10 = .ok (.if_icmp .lt 6, 3) := by decide +kernel
theorem dX4_breakOf_13 : decode cX4_breakOf 13 = .ok (.bipush (-2), 2) := by decide +kernel
theorem dX4_breakOf_15 : decode cX4_breakOf 15 = .ok (.ireturn, 1) := by decide +kernel
theorem dX4_breakOf_16 : decode cX4_breakOf 16 = .ok (.iload_n 1, 1) := by decide +kernel
theorem dX4_breakOf_17 : decode cX4_breakOf 17 = .ok (.aload_n 0, 1) := by decide +kernel
theorem dX4_breakOf_18 : decode cX4_breakOf 18 = .ok (.invokevirtual 100, 3) := by decide +kernel
theorem dX4_breakOf_21 : decode cX4_breakOf 21 = .ok (.if_icmp .lt 6, 3) := by decide +kernel
theorem dX4_breakOf_24 : decode cX4_breakOf 24 = .ok (.bipush (-5), 2) := by decide +kernel
theorem dX4_breakOf_26 : decode cX4_breakOf 26 = .ok (.ireturn, 1) := by decide +kernel
theorem dX4_breakOf_27 : decode cX4_breakOf 27 = .ok (.aload_n 0, 1) := by decide +kernel
theorem dX4_breakOf_28 : decode cX4_breakOf 28 = .ok (.getfield 40, 3) := by decide +kernel
theorem dX4_breakOf_31 : decode cX4_breakOf 31 = .ok (.iload_n 1, 1) := by decide +kernel
theorem dX4_breakOf_32 : decode cX4_breakOf 32 = .ok (.iload_n 2, 1) := by decide +kernel
theorem dX4_breakOf_33 : decode cX4_breakOf 33 = .ok (.invokevirtual 188, 3) := by decide +kernel
theorem dX4_breakOf_36 : decode cX4_breakOf 36 = .ok (.ireturn, 1) := by decide +kernel
set_option maxRecDepth 20000 in
theorem ggX4_firstBreak_X4_isScene : GoodIn wsX4_firstBreak wsX4_isScene := goodIn_r _ [5] (by decide +kernel) (by decide +kernel)
set_option maxRecDepth 20000 in
theorem gX4_firstBreak_X4_isScene : GoodIn wsX4_firstBreak (va_wsS RX4 79 yX4_isScene wsX4_isScene) := goodIn_app (goodIn_of _ (by decide +kernel)) ggX4_firstBreak_X4_isScene
set_option maxRecDepth 20000 in
theorem ggX4_firstBreak_X4_rankOfFirstBreak : GoodIn wsX4_firstBreak wsX4_rankOfFirstBreak := goodIn_r _ [9, 10, 11, 12, 4, 13, 1, 14, 15, 16, 17, 18, 19, 20, 21, 22, 23, 24, 25, 26, 27, 28, 29, 30, 31, 32, 33, 34, 35, 36, 37, 38, 39, 40, 41, 42, 43, 44, 45, 46, 47, 48, 49, 50, 51, 52, 53, 54, 55, 56, 57, 58, 59, 60, 61, 62, 63, 64, 65, 66, 67, 68, 69, 70, 71, 72, 73, 74, 75, 76, 77, 78, 79, 80, 81, 82, 83, 84, 85, 86, 87, 88, 89, 90, 91, 92, 93, 94, 95, 96, 97, 98, 99, 100, 101, 102, 103, 104, 105, 106, 107, 108, 109, 110, 111, 112, 113, 114, 115, 116, 117, 118, 119, 120] (by decide +kernel) (by decide +kernel)
set_option maxRecDepth 20000 in
theorem gX4_firstBreak_X4_rankOfFirstBreak : GoodIn wsX4_firstBreak (wsV RX4 191 RX4 yX4_rankOfFirstBreak wsX4_rankOfFirstBreak) := goodIn_app (goodIn_of _ (by decide +kernel)) ggX4_firstBreak_X4_rankOfFirstBreak
set_option maxRecDepth 20000 in
theorem ggX4_firstBreak_X1_numberOfBreak : GoodIn wsX4_firstBreak wsX1_numberOfBreak := goodIn_r _ [94, 76, 32, 4, 33, 115, 116, 117, 118, 119, 120] (by decide +kernel) (by decide +kernel)
set_option maxRecDepth 20000 in
theorem gX4_firstBreak_X1_numberOfBreak : GoodIn wsX4_firstBreak (wsV RX4 188 RX1 yX1_numberOfBreak wsX1_numberOfBreak) := goodIn_app (goodIn_of _ (by decide +kernel)) ggX4_firstBreak_X1_numberOfBreak
theorem dX4_firstBreak_0 : decode cX4_firstBreak 0 = .ok (.iload_n 1, 1) := by decide +kernel
theorem dX4_firstBreak_1 : decode cX4_firstBreak 1 = .ok (.invokestatic 79, 3) := by decide +kernel
theorem dX4_firstBreak_4 : decode cX4_firstBreak 4 = .ok (.ifCond .ne 5, 3) := by decide +kernel
theorem dX4_firstBreak_7 : decode cX4_firstBreak 7 = .ok (.iconst (-1), 1) := by decide +kernel
theorem dX4_firstBreak_8 : decode cX4_firstBreak 8 = .ok (.ireturn, 1) := by decide +kernel
theorem dX4_firstBreak_9 : decode cX4_firstBreak 9 = .ok (.iload_n 2, 1) := by decide +kernel
theorem dX4_firstBreak_10 : decode cX4_firstBreak 10 = .ok (.ifCond .lt 8, 3) := by decide +kernel
theorem dX4_firstBreak_13 : decode cX4_firstBreak 13 = .ok (.iload_n 2, 1) := by decide +kernel
theorem dX4_firstBreak_14 : decode cX4_firstBreak 14 = .ok (.iconst 2, 1) := by decide +kernel
theorem dX4_firstBreak_15 : decode cX4_firstBreak 15 = .ok (.if_icmp .le 6, 3) := by decide +kernel
theorem dX4_firstBreak_18 : decode cX4_firstBreak 18 = .ok (.bipush (-2), 2) := by decide +kernel
theorem dX4_firstBreak_20 : decode cX4_firstBreak 20 = .ok (.ireturn, 1) := by decide +kernel
theorem dX4_firstBreak_21 : decode cX4_firstBreak 21 = .ok (.aload_n 0, 1) := by decide +kernel
theorem dX4_firstBreak_22 : decode cX4_firstBreak 22 = .ok (.iload_n 1, 1) := by decide +kernel
theorem dX4_firstBreak_23 : decode cX4_firstBreak 23 = .ok (.invokevirtual 191, 3) := by decide +kernel
theorem dX4_firstBreak_26 : decode cX4_firstBreak 26 = .ok (.istore_n 3, 1) := by decide +kernel
theorem dX4_firstBreak_27 : decode cX4_firstBreak 27 = .ok (.iload_n 3, 1) := by decide +kernel
theorem dX4_firstBreak_28 : decode cX4_firstBreak 28 = .ok (.iconst (-1), 1) := by decide +kernel
theorem dX4_firstBreak_29 : decode cX4_firstBreak 29 = .ok (.if_icmp .ne 6, 3) := by decide +kernel
theorem dX4_firstBreak_32 : decode cX4_firstBreak 32 = .ok (.bipush (-5), 2) := by decide +kernel
theorem dX4_firstBreak_34 : decode cX4_firstBreak 34 = .ok (.ireturn, 1) := by decide +kernel
theorem dX4_firstBreak_35 : decode cX4_firstBreak 35 = .ok (.iload_n 2, 1) := by decide +kernel
theorem dX4_firstBreak_36 : decode cX4_firstBreak 36 = .ok (.lookupswitch 48 #[(0, 28), (1, 38)], 28) := by decide +kernel
theorem dX4_firstBreak_64 : decode cX4_firstBreak 64 = .ok (.aload_n 0, 1) := by decide +kernel
theorem dX4_firstBreak_65 : decode cX4_firstBreak 65 = .ok (.getfield 40, 3) := by decide +kernel
theorem dX4_firstBreak_68 : decode cX4_firstBreak 68 = .ok (.iload_n 3, 1) := by decide +kernel
theorem dX4_firstBreak_69 : decode cX4_firstBreak 69 = .ok (.iconst 0, 1) := by decide +kernel
theorem dX4_firstBreak_70 : decode cX4_firstBreak 70 = .ok (.invokevirtual 188, 3) := by decide +kernel
theorem dX4_firstBreak_73 : decode cX4_firstBreak 73 = .ok (.ireturn, 1) := by decide +kernel
theorem dX4_firstBreak_74 : decode cX4_firstBreak 74 = .ok (.aload_n 0, 1) := by decide +kernel
theorem dX4_firstBreak_75 : decode cX4_firstBreak 75 = .ok (.getfield 40, 3) := by decide +kernel
theorem dX4_firstBreak_78 : decode cX4_firstBreak 78 = .ok (.iload_n 3, 1) := by decide +kernel
theorem dX4_firstBreak_79 : decode cX4_firstBreak 79 = .ok (.iconst 1, 1) := by decide +kernel
theorem dX4_firstBreak_80 : decode cX4_firstBreak 80 = .ok (.invokevirtual 188, 3) := by decide +kernel
theorem dX4_firstBreak_83 : decode cX4_firstBreak 83 = .ok (.ireturn, 1) := by decide +kernel
theorem dX4_firstBreak_84 : decode cX4_firstBreak 84 = .ok (.iload_n 3, 1) := by decide +kernel
theorem dX4_firstBreak_85 : decode cX4_firstBreak 85 = .ok (.ireturn, 1) := by decide +kernel
set_option maxRecDepth 20000 in
theorem ggX4_ifMoved_X0_slotOf : GoodIn wsX4_ifMoved wsX0_slotOf := goodIn_r _ [6, 7, 8, 9, 10, 128, 129, 130, 131, 132, 133, 134, 135, 136] (by decide +kernel) (by decide +kernel)
set_option maxRecDepth 20000 in
theorem gX4_ifMoved_X0_slotOf : GoodIn wsX4_ifMoved (wsV RX4 60 RX0 yX0_slotOf wsX0_slotOf) := goodIn_app (goodIn_of _ (by decide +kernel)) ggX4_ifMoved_X0_slotOf
set_option maxRecDepth 20000 in
theorem ggX4_ifMoved_X4_isScene : GoodIn wsX4_ifMoved wsX4_isScene := goodIn_r _ [13] (by decide +kernel) (by decide +kernel)
set_option maxRecDepth 20000 in
theorem gX4_ifMoved_X4_isScene : GoodIn wsX4_ifMoved (va_wsS RX4 79 yX4_isScene wsX4_isScene) := goodIn_app (goodIn_of _ (by decide +kernel)) ggX4_ifMoved_X4_isScene
set_option maxRecDepth 20000 in
theorem ggX4_ifMoved_X0_hasPlaceFor : GoodIn wsX4_ifMoved wsX0_hasPlaceFor := goodIn_r _ [17, 18, 19, 20, 5, 21, 22, 23, 24, 25, 26, 27, 28, 8, 9, 10, 29, 30, 31, 32, 128, 129, 130, 131, 132, 133, 134, 135, 136] (by decide +kernel) (by decide +kernel)
set_option maxRecDepth 20000 in
theorem gX4_ifMoved_X0_hasPlaceFor : GoodIn wsX4_ifMoved (wsV RX4 83 RX0 yX0_hasPlaceFor wsX0_hasPlaceFor) := goodIn_app (goodIn_of _ (by decide +kernel)) ggX4_ifMoved_X0_hasPlaceFor
set_option maxRecDepth 20000 in
theorem ggX4_ifMoved_X4_breaksWith : GoodIn wsX4_ifMoved wsX4_breaksWith := goodIn_r _ [36, 1, 37, 38, 30, 31, 5, 32, 27, 8, 9, 10, 39, 40, 41, 42, 43, 44, 45, 46, 26, 28, 29, 47, 48, 49, 50, 51, 52, 53, 54, 55, 56, 57, 58, 59, 60, 61, 62, 63, 64, 65, 66, 67, 68, 69, 70, 71, 72, 73, 74, 75, 76, 77, 78, 79, 80, 81, 82, 83, 84, 85, 86, 7, 87, 88, 89, 90, 91, 92, 93, 94, 95, 96, 97, 98, 99, 100, 101, 102, 103, 104, 105, 106, 107, 108, 109, 110, 111, 112, 113, 114, 115, 116, 117, 118, 119, 120, 121, 122, 123, 124, 125, 126, 127, 128, 129, 130, 131, 132, 133, 134, 135, 136, 137, 138, 139, 140, 141, 142] (by decide +kernel) (by decide +kernel)
set_option maxRecDepth 20000 in
theorem gX4_ifMoved_X4_breaksWith : GoodIn wsX4_ifMoved (wsV RX4 194 RX4 yX4_breaksWith wsX4_breaksWith) := goodIn_app (goodIn_of _ (by decide +kernel)) ggX4_ifMoved_X4_breaksWith
theorem dX4_ifMoved_0 : decode cX4_ifMoved 0 = .ok (.aload_n 0, 1) := by decide +kernel
theorem dX4_ifMoved_1 : decode cX4_ifMoved 1 = .ok (.getfield 12, 3) := by decide +kernel
theorem dX4_ifMoved_4 : decode cX4_ifMoved 4 = .ok (.iload_n 1, 1) := by decide +kernel
theorem dX4_ifMoved_5 : decode cX4_ifMoved 5 = .ok (.invokevirtual 60, 3) := by decide +kernel
theorem dX4_ifMoved_8 : decode cX4_ifMoved 8 = .ok (.istore 4, 2) := by decide +kernel
theorem dX4_ifMoved_10 : decode cX4_ifMoved 10 = .ok (.iload 4, 2) := by decide +kernel
theorem dX4_ifMoved_12 : decode cX4_ifMoved 12 = .ok (.iconst (-1), 1) := by decide +kernel
theorem dX4_ifMoved_13 : decode cX4_ifMoved 13 = .ok (.if_icmp .eq 10, 3) := by decide +kernel
theorem dX4_ifMoved_16 : decode cX4_ifMoved 16 = .ok (.iload_n 2, 1) := by decide +kernel
theorem dX4_ifMoved_17 : decode cX4_ifMoved 17 = .ok (.invokestatic 79, 3) := by decide +kernel
theorem dX4_ifMoved_20 : decode cX4_ifMoved 20 = .ok (.ifCond .ne 5, 3) := by decide +kernel
theorem dX4_ifMoved_23 : decode cX4_ifMoved 23 = .ok (.iconst (-1), 1) := by decide +kernel
theorem dX4_ifMoved_24 : decode cX4_ifMoved 24 = .ok (.ireturn, 1) := by decide +kernel
theorem dX4_ifMoved_25 : decode cX4_ifMoved 25 = .ok (.aload_n 0, 1) := by decide +kernel
theorem dX4_ifMoved_26 : decode cX4_ifMoved 26 = .ok (.getfield 12, 3) := by decide +kernel
theorem dX4_ifMoved_29 : decode cX4_ifMoved 29 = .ok (.iload 4, 2) := by decide +kernel
theorem dX4_ifMoved_31 : decode cX4_ifMoved 31 = .ok (.iload_n 2, 1) := by decide +kernel
theorem dX4_ifMoved_32 : decode cX4_ifMoved 32 = .ok (.iload_n 3, 1) := by decide +kernel
theorem dX4_ifMoved_33 : decode cX4_ifMoved 33 = .ok (.invokevirtual 83, 3) := by decide +kernel
theorem dX4_ifMoved_36 : decode cX4_ifMoved 36 = .ok (.ifCond .ne 6, 3) := by decide +kernel
theorem dX4_ifMoved_39 : decode cX4_ifMoved 39 = .ok (.bipush (-2), 2) := by decide +kernel
theorem dX4_ifMoved_41 : decode cX4_ifMoved 41 = .ok (.ireturn, 1) := by decide +kernel
theorem dX4_ifMoved_42 : decode cX4_ifMoved 42 = .ok (.aload_n 0, 1) := by decide +kernel
theorem dX4_ifMoved_43 : decode cX4_ifMoved 43 = .ok (.iload 4, 2) := by decide +kernel
theorem dX4_ifMoved_45 : decode cX4_ifMoved 45 = .ok (.iload_n 2, 1) := by decide +kernel
theorem dX4_ifMoved_46 : decode cX4_ifMoved 46 = .ok (.iload_n 3, 1) := by decide +kernel
theorem dX4_ifMoved_47 : decode cX4_ifMoved 47 = .ok (.invokevirtual 194, 3) := by decide +kernel
theorem dX4_ifMoved_50 : decode cX4_ifMoved 50 = .ok (.ireturn, 1) := by decide +kernel
set_option maxRecDepth 20000 in
theorem ggX4_bestPlace_X0_slotOf : GoodIn wsX4_bestPlace wsX0_slotOf := goodIn_r _ [6, 7, 8, 9, 10, 128, 129, 130, 131, 132, 133, 134, 135, 136] (by decide +kernel) (by decide +kernel)
set_option maxRecDepth 20000 in
theorem gX4_bestPlace_X0_slotOf : GoodIn wsX4_bestPlace (wsV RX4 60 RX0 yX0_slotOf wsX0_slotOf) := goodIn_app (goodIn_of _ (by decide +kernel)) ggX4_bestPlace_X0_slotOf
set_option maxRecDepth 20000 in
theorem ggX4_bestPlace_X4_isScene : GoodIn wsX4_bestPlace wsX4_isScene := goodIn_r _ [13] (by decide +kernel) (by decide +kernel)
set_option maxRecDepth 20000 in
theorem gX4_bestPlace_X4_isScene : GoodIn wsX4_bestPlace (va_wsS RX4 79 yX4_isScene wsX4_isScene) := goodIn_app (goodIn_of _ (by decide +kernel)) ggX4_bestPlace_X4_isScene
set_option maxRecDepth 20000 in
theorem ggX4_bestPlace_X4_lowestBestPlace : GoodIn wsX4_bestPlace wsX4_lowestBestPlace := goodIn_r _ [17, 1, 18, 19, 20, 9, 21, 22, 23, 24, 25, 5, 26, 27, 8, 10, 28, 29, 30, 31, 32, 33, 34, 35, 36, 37, 38, 39, 40, 41, 42, 43, 44, 45, 46, 47, 48, 49, 50, 51, 52, 53, 54, 55, 56, 57, 58, 59, 60, 61, 62, 63, 64, 65, 66, 67, 68, 69, 70, 71, 72, 73, 74, 75, 76, 77, 78, 7, 79, 80, 81, 82, 83, 84, 85, 86, 87, 88, 89, 90, 91, 92, 93, 94, 95, 96, 97, 98, 99, 100, 101, 102, 103, 104, 105, 106, 107, 108, 109, 110, 111, 112, 113, 114, 115, 116, 117, 118, 119, 120, 121, 122, 123, 124, 125, 126, 127, 128, 129, 130, 131, 132, 133, 134, 135, 136, 137, 138, 139, 140, 141, 142] (by decide +kernel) (by decide +kernel)
set_option maxRecDepth 20000 in
theorem gX4_bestPlace_X4_lowestBestPlace : GoodIn wsX4_bestPlace (wsV RX4 122 RX4 yX4_lowestBestPlace wsX4_lowestBestPlace) := goodIn_app (goodIn_of _ (by decide +kernel)) ggX4_bestPlace_X4_lowestBestPlace
theorem dX4_bestPlace_0 : decode cX4_bestPlace 0 = .ok (.aload_n 0, 1) := by decide +kernel
theorem dX4_bestPlace_1 : decode cX4_bestPlace 1 = .ok (.getfield 12, 3) := by decide +kernel
theorem dX4_bestPlace_4 : decode cX4_bestPlace 4 = .ok (.iload_n 1, 1) := by decide +kernel
theorem dX4_bestPlace_5 : decode cX4_bestPlace 5 = .ok (.invokevirtual 60, 3) := by decide +kernel
theorem dX4_bestPlace_8 : decode cX4_bestPlace 8 = .ok (.istore_n 3, 1) := by decide +kernel
theorem dX4_bestPlace_9 : decode cX4_bestPlace 9 = .ok (.iload_n 3, 1) := by decide +kernel
theorem dX4_bestPlace_10 : decode cX4_bestPlace 10 = .ok (.iconst (-1), 1) := by decide +kernel
theorem dX4_bestPlace_11 : decode cX4_bestPlace 11 = .ok (.if_icmp .eq 10, 3) := by decide +kernel
theorem dX4_bestPlace_14 : decode cX4_bestPlace 14 = .ok (.iload_n 2, 1) := by decide +kernel
theorem dX4_bestPlace_15 : decode cX4_bestPlace 15 = .ok (.invokestatic 79, 3) := by decide +kernel
theorem dX4_bestPlace_18 : decode cX4_bestPlace 18 = .ok (.ifCond .ne 5, 3) := by decide +kernel
theorem dX4_bestPlace_21 : decode cX4_bestPlace 21 = .ok (.iconst (-1), 1) := by decide +kernel
theorem dX4_bestPlace_22 : decode cX4_bestPlace 22 = .ok (.ireturn, 1) := by decide +kernel
theorem dX4_bestPlace_23 : decode cX4_bestPlace 23 = .ok (.aload_n 0, 1) := by decide +kernel
theorem dX4_bestPlace_24 : decode cX4_bestPlace 24 = .ok (.iload_n 3, 1) := by decide +kernel
theorem dX4_bestPlace_25 : decode cX4_bestPlace 25 = .ok (.iload_n 2, 1) := by decide +kernel
theorem dX4_bestPlace_26 : decode cX4_bestPlace 26 = .ok (.invokevirtual 122, 3) := by decide +kernel
theorem dX4_bestPlace_29 : decode cX4_bestPlace 29 = .ok (.ireturn, 1) := by decide +kernel
set_option maxRecDepth 20000 in
theorem ggX4_count_X0_ticksAhead : GoodIn wsX4_count wsX0_ticksAhead := goodIn_r _ [8, 9, 10, 11, 12, 13, 14, 15, 16, 7, 17, 18, 118, 119, 120, 121, 122, 123, 124, 125, 126] (by decide +kernel) (by decide +kernel)
set_option maxRecDepth 20000 in
theorem gX4_count_X0_ticksAhead : GoodIn wsX4_count (wsV RX4 142 RX0 yX0_ticksAhead wsX0_ticksAhead) := goodIn_app (goodIn_of _ (by decide +kernel)) ggX4_count_X0_ticksAhead
set_option maxRecDepth 20000 in
theorem ggX4_count_X4_breaksNow : GoodIn wsX4_count wsX4_breaksNow := goodIn_r _ [22, 23, 1, 24, 25, 26, 27, 28, 29, 30, 31, 32, 12, 33, 34, 35, 36, 7, 37, 9, 10, 11, 13, 38, 39, 40, 41, 42, 43, 44, 45, 46, 47, 48, 49, 50, 51, 52, 53, 54, 55, 56, 57, 58, 59, 60, 61, 62, 63, 64, 65, 66, 67, 68, 69, 70, 71, 72, 73, 74, 75, 76, 77, 78, 79, 80, 81, 82, 83, 84, 85, 86, 87, 88, 89, 90, 112, 113, 114, 115, 116, 117, 118, 119, 120, 121, 122, 123, 124, 125, 126, 135, 136, 137, 138, 139, 140] (by decide +kernel) (by decide +kernel)
set_option maxRecDepth 20000 in
theorem gX4_count_X4_breaksNow : GoodIn wsX4_count (wsV RX4 100 RX4 yX4_breaksNow wsX4_breaksNow) := goodIn_app (goodIn_of _ (by decide +kernel)) ggX4_count_X4_breaksNow
set_option maxRecDepth 20000 in
theorem ggX4_count_X0_eventsOfAll : GoodIn wsX4_count wsX0_eventsOfAll := goodIn_r _ [94, 9, 10, 11, 12, 13, 95, 55, 56, 7, 57, 58, 118, 119, 120, 121, 122, 123, 124, 125, 126] (by decide +kernel) (by decide +kernel)
set_option maxRecDepth 20000 in
theorem gX4_count_X0_eventsOfAll : GoodIn wsX4_count (wsV RX4 201 RX0 yX0_eventsOfAll wsX0_eventsOfAll) := goodIn_app (goodIn_of _ (by decide +kernel)) ggX4_count_X0_eventsOfAll
set_option maxRecDepth 20000 in
theorem ggX4_count_X4_propsHeldAtTheEnd : GoodIn wsX4_count wsX4_propsHeldAtTheEnd := goodIn_r _ [99, 23, 1, 24, 25, 26, 27, 28, 29, 30, 31, 32, 12, 33, 34, 35, 36, 7, 37, 9, 10, 11, 13, 38, 39, 40, 41, 42, 43, 44, 45, 46, 47, 48, 49, 50, 51, 52, 53, 54, 55, 56, 57, 58, 59, 60, 61, 62, 63, 64, 65, 66, 67, 68, 69, 70, 71, 72, 73, 74, 75, 76, 77, 78, 79, 80, 81, 82, 83, 84, 85, 86, 87, 88, 89, 90, 100, 101, 102, 103, 112, 113, 114, 115, 116, 117, 118, 119, 120, 121, 122, 123, 124, 125, 126, 135, 136, 137, 138, 139, 140] (by decide +kernel) (by decide +kernel)
set_option maxRecDepth 20000 in
theorem gX4_count_X4_propsHeldAtTheEnd : GoodIn wsX4_count (wsV RX4 204 RX4 yX4_propsHeldAtTheEnd wsX4_propsHeldAtTheEnd) := goodIn_app (goodIn_of _ (by decide +kernel)) ggX4_count_X4_propsHeldAtTheEnd
set_option maxRecDepth 20000 in
theorem ggX4_count_X4_breaksHaving : GoodIn wsX4_count wsX4_breaksHaving := goodIn_r _ [107, 23, 19, 20, 21, 12, 22, 1, 24, 25, 26, 27, 28, 29, 30, 31, 32, 33, 34, 35, 36, 7, 37, 9, 10, 11, 13, 38, 39, 40, 41, 42, 43, 44, 45, 46, 47, 48, 49, 50, 51, 52, 53, 54, 55, 56, 57, 58, 59, 60, 61, 62, 63, 64, 65, 66, 67, 68, 69, 70, 71, 72, 73, 74, 75, 76, 77, 78, 79, 80, 81, 82, 83, 84, 85, 86, 87, 88, 89, 90, 108, 109, 110, 111, 112, 113, 114, 115, 116, 117, 118, 119, 120, 121, 122, 123, 124, 125, 126, 135, 136, 137, 138, 139, 140] (by decide +kernel) (by decide +kernel)
set_option maxRecDepth 20000 in
theorem gX4_count_X4_breaksHaving : GoodIn wsX4_count (wsV RX4 145 RX4 yX4_breaksHaving wsX4_breaksHaving) := goodIn_app (goodIn_of _ (by decide +kernel)) ggX4_count_X4_breaksHaving
theorem dX4_count_0 : decode cX4_count 0 = .ok (.iload_n 1, 1) := by decide +kernel
theorem dX4_count_1 : decode cX4_count 1 = .ok (.tableswitch 167 0 12 #[67, 75, 83, 98, 103, 111, 116, 123, 130, 137, 144, 151, 159], 67) := by decide +kernel
theorem dX4_count_68 : decode cX4_count 68 = .ok (.aload_n 0, 1) := by decide +kernel
theorem dX4_count_69 : decode cX4_count 69 = .ok (.getfield 12, 3) := by decide +kernel
theorem dX4_count_72 : decode cX4_count 72 = .ok (.getfield 75, 3) := by decide +kernel
theorem dX4_count_75 : decode cX4_count 75 = .ok (.ireturn, 1) := by decide +kernel
theorem dX4_count_76 : decode cX4_count 76 = .ok (.aload_n 0, 1) := by decide +kernel
theorem dX4_count_77 : decode cX4_count 77 = .ok (.getfield 12, 3) := by decide +kernel
theorem dX4_count_80 : decode cX4_count 80 = .ok (.getfield 198, 3) := by decide +kernel
theorem dX4_count_83 : decode cX4_count 83 = .ok (.ireturn, 1) := by decide +kernel
theorem dX4_count_84 : decode cX4_count 84 = .ok (.aload_n 0, 1) := by decide +kernel
theorem dX4_count_85 : decode cX4_count 85 = .ok (.getfield 12, 3) := by decide +kernel
theorem dX4_count_88 : decode cX4_count 88 = .ok (.aload_n 0, 1) := by decide +kernel
theorem dX4_count_89 : decode cX4_count 89 = .ok (.getfield 12, 3) := by decide +kernel
theorem dX4_count_92 : decode cX4_count 92 = .ok (.getfield 75, 3) := by decide +kernel
theorem dX4_count_95 : decode cX4_count 95 = .ok (.invokevirtual 142, 3) := by decide +kernel
theorem dX4_count_98 : decode cX4_count 98 = .ok (.ireturn, 1) := by decide +kernel
theorem dX4_count_99 : decode cX4_count 99 = .ok (.aload_n 0, 1) := by decide +kernel
theorem dX4_count_100 : decode cX4_count 100 = .ok (.invokevirtual 100, 3) := by decide +kernel
theorem dX4_count_103 : decode cX4_count 103 = .ok (.ireturn, 1) := by decide +kernel
theorem dX4_count_104 : decode cX4_count 104 = .ok (.aload_n 0, 1) := by decide +kernel
theorem dX4_count_105 : decode cX4_count 105 = .ok (.getfield 12, 3) := by decide +kernel
theorem dX4_count_108 : decode cX4_count 108 = .ok (.invokevirtual 201, 3) := by decide +kernel
theorem dX4_count_111 : decode cX4_count 111 = .ok (.ireturn, 1) := by decide +kernel
theorem dX4_count_112 : decode cX4_count 112 = .ok (.aload_n 0, 1) := by decide +kernel
theorem dX4_count_113 : decode cX4_count 113 = .ok (.invokevirtual 204, 3) := by decide +kernel
theorem dX4_count_116 : decode cX4_count 116 = .ok (.ireturn, 1) := by decide +kernel
theorem dX4_count_117 : decode cX4_count 117 = .ok (.aload_n 0, 1) := by decide +kernel
theorem dX4_count_118 : decode cX4_count 118 = .ok (.iconst 1, 1) := by decide +kernel
theorem dX4_count_119 : decode cX4_count 119 = .ok (.iconst 1, 1) := by decide +kernel
theorem dX4_count_120 : decode cX4_count 120 = .ok (.invokevirtual 145, 3) := by decide +kernel
theorem dX4_count_123 : decode cX4_count 123 = .ok (.ireturn, 1) := by decide +kernel
theorem dX4_count_124 : decode cX4_count 124 = .ok (.aload_n 0, 1) := by decide +kernel
theorem dX4_count_125 : decode cX4_count 125 = .ok (.iconst 1, 1) := by decide +kernel
theorem dX4_count_126 : decode cX4_count 126 = .ok (.iconst 2, 1) := by decide +kernel
theorem dX4_count_127 : decode cX4_count 127 = .ok (.invokevirtual 145, 3) := by decide +kernel
theorem dX4_count_130 : decode cX4_count 130 = .ok (.ireturn, 1) := by decide +kernel
theorem dX4_count_131 : decode cX4_count 131 = .ok (.aload_n 0, 1) := by decide +kernel
theorem dX4_count_132 : decode cX4_count 132 = .ok (.iconst 1, 1) := by decide +kernel
theorem dX4_count_133 : decode cX4_count 133 = .ok (.iconst 3, 1) := by decide +kernel
theorem dX4_count_134 : decode cX4_count 134 = .ok (.invokevirtual 145, 3) := by decide +kernel
theorem dX4_count_137 : decode cX4_count 137 = .ok (.ireturn, 1) := by decide +kernel
theorem dX4_count_138 : decode cX4_count 138 = .ok (.aload_n 0, 1) := by decide +kernel
theorem dX4_count_139 : decode cX4_count 139 = .ok (.iconst 1, 1) := by decide +kernel
theorem dX4_count_140 : decode cX4_count 140 = .ok (.iconst 4, 1) := by decide +kernel
theorem dX4_count_141 : decode cX4_count 141 = .ok (.invokevirtual 145, 3) := by decide +kernel
theorem dX4_count_144 : decode cX4_count 144 = .ok (.ireturn, 1) := by decide +kernel
theorem dX4_count_145 : decode cX4_count 145 = .ok (.aload_n 0, 1) := by decide +kernel
theorem dX4_count_146 : decode cX4_count 146 = .ok (.iconst 1, 1) := by decide +kernel
theorem dX4_count_147 : decode cX4_count 147 = .ok (.iconst 5, 1) := by decide +kernel
theorem dX4_count_148 : decode cX4_count 148 = .ok (.invokevirtual 145, 3) := by decide +kernel
theorem dX4_count_151 : decode cX4_count 151 = .ok (.ireturn, 1) := by decide +kernel
theorem dX4_count_152 : decode cX4_count 152 = .ok (.aload_n 0, 1) := by decide +kernel
theorem dX4_count_153 : decode cX4_count 153 = .ok (.getfield 26, 3) := by decide +kernel
theorem dX4_count_156 : decode cX4_count 156 = .ok (.getfield 132, 3) := by decide +kernel
theorem dX4_count_159 : decode cX4_count 159 = .ok (.ireturn, 1) := by decide +kernel
theorem dX4_count_160 : decode cX4_count 160 = .ok (.aload_n 0, 1) := by decide +kernel
theorem dX4_count_161 : decode cX4_count 161 = .ok (.getfield 33, 3) := by decide +kernel
theorem dX4_count_164 : decode cX4_count 164 = .ok (.getfield 126, 3) := by decide +kernel
theorem dX4_count_167 : decode cX4_count 167 = .ok (.ireturn, 1) := by decide +kernel
theorem dX4_count_168 : decode cX4_count 168 = .ok (.bipush (-2), 2) := by decide +kernel
theorem dX4_count_170 : decode cX4_count 170 = .ok (.ireturn, 1) := by decide +kernel
set_option maxRecDepth 20000 in
theorem ggX4_breaksNow_X1_goThrough : GoodIn wsX4_breaksNow wsX1_goThrough := goodIn_r _ [7, 8, 9, 10, 11, 12, 13, 14, 15, 16, 17, 18, 19, 20, 21, 22, 23, 24, 25, 26, 27, 28, 29, 30, 6, 31, 32, 33, 34, 35, 36, 37, 38, 39, 40, 41, 42, 43, 44, 45, 46, 47, 48, 49, 50, 51, 52, 53, 54, 55, 56, 57, 58, 59, 60, 61, 62, 63, 64, 65, 66, 67, 68, 69, 70, 71, 72, 73, 74, 75, 91, 92, 93, 94, 95, 96, 82, 83, 84, 85, 86, 87, 88, 89, 90] (by decide +kernel) (by decide +kernel)
set_option maxRecDepth 20000 in
theorem gX4_breaksNow_X1_goThrough : GoodIn wsX4_breaksNow (wsV RX4 181 RX1 yX1_goThrough wsX1_goThrough) := goodIn_app (goodIn_of _ (by decide +kernel)) ggX4_breaksNow_X1_goThrough
theorem dX4_breaksNow_0 : decode cX4_breaksNow 0 = .ok (.aload_n 0, 1) := by decide +kernel
theorem dX4_breaksNow_1 : decode cX4_breaksNow 1 = .ok (.getfield 40, 3) := by decide +kernel
theorem dX4_breaksNow_4 : decode cX4_breaksNow 4 = .ok (.aload_n 0, 1) := by decide +kernel
theorem dX4_breaksNow_5 : decode cX4_breaksNow 5 = .ok (.getfield 12, 3) := by decide +kernel
theorem dX4_breaksNow_8 : decode cX4_breaksNow 8 = .ok (.aload_n 0, 1) := by decide +kernel
theorem dX4_breaksNow_9 : decode cX4_breaksNow 9 = .ok (.getfield 12, 3) := by decide +kernel
theorem dX4_breaksNow_12 : decode cX4_breaksNow 12 = .ok (.getfield 75, 3) := by decide +kernel
theorem dX4_breaksNow_15 : decode cX4_breaksNow 15 = .ok (.invokevirtual 181, 3) := by decide +kernel
theorem dX4_breaksNow_18 : decode cX4_breaksNow 18 = .ok (.aload_n 0, 1) := by decide +kernel
theorem dX4_breaksNow_19 : decode cX4_breaksNow 19 = .ok (.getfield 40, 3) := by decide +kernel
theorem dX4_breaksNow_22 : decode cX4_breaksNow 22 = .ok (.getfield 207, 3) := by decide +kernel
theorem dX4_breaksNow_25 : decode cX4_breaksNow 25 = .ok (.ireturn, 1) := by decide +kernel
set_option maxRecDepth 20000 in
theorem ggX4_breaksWith_X0_sceneOf : GoodIn wsX4_breaksWith wsX0_sceneOf := goodIn_r _ [7, 8, 9, 10, 11, 105, 106, 107, 108, 109, 110, 111, 112, 113] (by decide +kernel) (by decide +kernel)
set_option maxRecDepth 20000 in
theorem gX4_breaksWith_X0_sceneOf : GoodIn wsX4_breaksWith (wsV RX4 87 RX0 yX0_sceneOf wsX0_sceneOf) := goodIn_app (goodIn_of _ (by decide +kernel)) ggX4_breaksWith_X0_sceneOf
set_option maxRecDepth 20000 in
theorem ggX4_breaksWith_X0_placeOf : GoodIn wsX4_breaksWith wsX0_placeOf := goodIn_r _ [15, 16, 17, 18, 6, 19, 20, 21, 9, 10, 11, 22, 4, 5, 7, 8, 23, 24, 25, 26, 27, 105, 106, 107, 108, 109, 110, 111, 112, 113] (by decide +kernel) (by decide +kernel)
set_option maxRecDepth 20000 in
theorem gX4_breaksWith_X0_placeOf : GoodIn wsX4_breaksWith (wsV RX4 90 RX0 yX0_placeOf wsX0_placeOf) := goodIn_app (goodIn_of _ (by decide +kernel)) ggX4_breaksWith_X0_placeOf
set_option maxRecDepth 20000 in
theorem ggX4_breaksWith_X0_takeOut : GoodIn wsX4_breaksWith wsX0_takeOut := goodIn_r _ [31, 20, 21, 16, 17, 18, 6, 19, 9, 10, 11, 32, 33, 105, 106, 107, 108, 109, 110, 111, 112, 113] (by decide +kernel) (by decide +kernel)
set_option maxRecDepth 20000 in
theorem gX4_breaksWith_X0_takeOut : GoodIn wsX4_breaksWith (wsV RX4 93 RX0 yX0_takeOut wsX0_takeOut) := goodIn_app (goodIn_of _ (by decide +kernel)) ggX4_breaksWith_X0_takeOut
set_option maxRecDepth 20000 in
theorem ggX4_breaksWith_X0_putIn : GoodIn wsX4_breaksWith wsX0_putIn := goodIn_r _ [37, 8, 20, 21, 32, 10, 33, 23, 24, 25, 6, 26, 27, 9, 11, 105, 106, 107, 108, 109, 110, 111, 112, 113] (by decide +kernel) (by decide +kernel)
set_option maxRecDepth 20000 in
theorem gX4_breaksWith_X0_putIn : GoodIn wsX4_breaksWith (wsV RX4 96 RX0 yX0_putIn wsX0_putIn) := goodIn_app (goodIn_of _ (by decide +kernel)) ggX4_breaksWith_X0_putIn
set_option maxRecDepth 20000 in
theorem ggX4_breaksWith_X1_goThrough : GoodIn wsX4_breaksWith wsX1_goThrough := goodIn_r _ [42, 43, 44, 45, 46, 10, 47, 48, 49, 50, 6, 51, 20, 21, 9, 11, 52, 4, 5, 7, 8, 53, 54, 55, 41, 56, 57, 58, 59, 60, 61, 62, 63, 64, 65, 66, 67, 68, 69, 70, 71, 72, 73, 74, 75, 76, 77, 78, 79, 80, 81, 82, 83, 84, 85, 86, 87, 88, 89, 90, 32, 33, 91, 92, 93, 94, 95, 96, 97, 98, 114, 115, 116, 117, 118, 119, 105, 106, 107, 108, 109, 110, 111, 112, 113] (by decide +kernel) (by decide +kernel)
set_option maxRecDepth 20000 in
theorem gX4_breaksWith_X1_goThrough : GoodIn wsX4_breaksWith (wsV RX4 181 RX1 yX1_goThrough wsX1_goThrough) := goodIn_app (goodIn_of _ (by decide +kernel)) ggX4_breaksWith_X1_goThrough
theorem dX4_breaksWith_0 : decode cX4_breaksWith 0 = .ok (.aload_n 0, 1) := by decide +kernel
theorem dX4_breaksWith_1 : decode cX4_breaksWith 1 = .ok (.getfield 12, 3) := by decide +kernel
theorem dX4_breaksWith_4 : decode cX4_breaksWith 4 = .ok (.iload_n 1, 1) := by decide +kernel
theorem dX4_breaksWith_5 : decode cX4_breaksWith 5 = .ok (.invokevirtual 87, 3) := by decide +kernel
theorem dX4_breaksWith_8 : decode cX4_breaksWith 8 = .ok (.istore 4, 2) := by decide +kernel
theorem dX4_breaksWith_10 : decode cX4_breaksWith 10 = .ok (.aload_n 0, 1) := by decide +kernel
theorem dX4_breaksWith_11 : decode cX4_breaksWith 11 = .ok (.getfield 12, 3) := by decide +kernel
theorem dX4_breaksWith_14 : decode cX4_breaksWith 14 = .ok (.iload_n 1, 1) := by decide +kernel
theorem dX4_breaksWith_15 : decode cX4_breaksWith 15 = .ok (.invokevirtual 90, 3) := by decide +kernel
theorem dX4_breaksWith_18 : decode cX4_breaksWith 18 = .ok (.istore 5, 2) := by decide +kernel
theorem dX4_breaksWith_20 : decode cX4_breaksWith 20 = .ok (.aload_n 0, 1) := by decide +kernel
theorem dX4_breaksWith_21 : decode cX4_breaksWith 21 = .ok (.getfield 12, 3) := by decide +kernel
theorem dX4_breaksWith_24 : decode cX4_breaksWith 24 = .ok (.iload_n 1, 1) := by decide +kernel
theorem dX4_breaksWith_25 : decode cX4_breaksWith 25 = .ok (.invokevirtual 93, 3) := by decide +kernel
theorem dX4_breaksWith_28 : decode cX4_breaksWith 28 = .ok (.aload_n 0, 1) := by decide +kernel
theorem dX4_breaksWith_29 : decode cX4_breaksWith 29 = .ok (.getfield 12, 3) := by decide +kernel
theorem dX4_breaksWith_32 : decode cX4_breaksWith 32 = .ok (.iload_n 1, 1) := by decide +kernel
theorem dX4_breaksWith_33 : decode cX4_breaksWith 33 = .ok (.iload_n 2, 1) := by decide +kernel
theorem dX4_breaksWith_34 : decode cX4_breaksWith 34 = .ok (.iload_n 3, 1) := by decide +kernel
theorem dX4_breaksWith_35 : decode cX4_breaksWith 35 = .ok (.invokevirtual 96, 3) := by decide +kernel
theorem dX4_breaksWith_38 : decode cX4_breaksWith 38 = .ok (.aload_n 0, 1) := by decide +kernel
theorem dX4_breaksWith_39 : decode cX4_breaksWith 39 = .ok (.getfield 40, 3) := by decide +kernel
theorem dX4_breaksWith_42 : decode cX4_breaksWith 42 = .ok (.aload_n 0, 1) := by decide +kernel
theorem dX4_breaksWith_43 : decode cX4_breaksWith 43 = .ok (.getfield 12, 3) := by decide +kernel
theorem dX4_breaksWith_46 : decode cX4_breaksWith 46 = .ok (.aload_n 0, 1) := by decide +kernel
theorem dX4_breaksWith_47 : decode cX4_breaksWith 47 = .ok (.getfield 12, 3) := by decide +kernel
theorem dX4_breaksWith_50 : decode cX4_breaksWith 50 = .ok (.getfield 75, 3) := by decide +kernel
theorem dX4_breaksWith_53 : decode cX4_breaksWith 53 = .ok (.invokevirtual 181, 3) := by decide +kernel
theorem dX4_breaksWith_56 : decode cX4_breaksWith 56 = .ok (.aload_n 0, 1) := by decide +kernel
theorem dX4_breaksWith_57 : decode cX4_breaksWith 57 = .ok (.getfield 12, 3) := by decide +kernel
theorem dX4_breaksWith_60 : decode cX4_breaksWith 60 = .ok (.iload_n 1, 1) := by decide +kernel
theorem dX4_breaksWith_61 : decode cX4_breaksWith 61 = .ok (.invokevirtual 93, 3) := by decide +kernel
theorem dX4_breaksWith_64 : decode cX4_breaksWith 64 = .ok (.aload_n 0, 1) := by decide +kernel
theorem dX4_breaksWith_65 : decode cX4_breaksWith 65 = .ok (.getfield 12, 3) := by decide +kernel
theorem dX4_breaksWith_68 : decode cX4_breaksWith 68 = .ok (.iload_n 1, 1) := by decide +kernel
theorem dX4_breaksWith_69 : decode cX4_breaksWith 69 = .ok (.iload 4, 2) := by decide +kernel
theorem dX4_breaksWith_71 : decode cX4_breaksWith 71 = .ok (.iload 5, 2) := by decide +kernel
theorem dX4_breaksWith_73 : decode cX4_breaksWith 73 = .ok (.invokevirtual 96, 3) := by decide +kernel
theorem dX4_breaksWith_76 : decode cX4_breaksWith 76 = .ok (.aload_n 0, 1) := by decide +kernel
theorem dX4_breaksWith_77 : decode cX4_breaksWith 77 = .ok (.getfield 40, 3) := by decide +kernel
theorem dX4_breaksWith_80 : decode cX4_breaksWith 80 = .ok (.getfield 207, 3) := by decide +kernel
theorem dX4_breaksWith_83 : decode cX4_breaksWith 83 = .ok (.ireturn, 1) := by decide +kernel
set_option maxRecDepth 20000 in
theorem ggX4_lowestBestPlace_X4_breaksWith : GoodIn wsX4_lowestBestPlace wsX4_breaksWith := goodIn_r _ [6, 1, 7, 8, 9, 10, 11, 12, 13, 14, 5, 15, 16, 17, 18, 19, 20, 21, 22, 23, 24, 25, 26, 27, 28, 29, 30, 31, 32, 33, 34, 35, 36, 37, 38, 39, 40, 41, 42, 43, 44, 45, 46, 47, 48, 49, 50, 51, 52, 53, 54, 55, 56, 57, 58, 59, 60, 61, 62, 63, 64, 65, 66, 67, 68, 69, 70, 71, 72, 73, 74, 75, 76, 77, 78, 79, 80, 81, 82, 83, 84, 85, 86, 87, 88, 89, 90, 91, 92, 93, 94, 95, 96, 97, 98, 99, 100, 101, 102, 111, 112, 113, 114, 115, 116, 117, 118, 119, 120, 121, 122, 123, 124, 125, 126, 127, 128, 129, 130, 131] (by decide +kernel) (by decide +kernel)
set_option maxRecDepth 20000 in
theorem gX4_lowestBestPlace_X4_breaksWith : GoodIn wsX4_lowestBestPlace (wsV RX4 194 RX4 yX4_breaksWith wsX4_breaksWith) := goodIn_app (goodIn_of _ (by decide +kernel)) ggX4_lowestBestPlace_X4_breaksWith
set_option maxRecDepth 20000 in
theorem ggX4_lowestBestPlace_X0_placesFor : GoodIn wsX4_lowestBestPlace wsX0_placesFor := goodIn_r _ [106, 107, 108, 109, 11, 110, 24, 13, 25, 14, 5, 15, 26, 9, 10, 12, 117, 118, 119, 120, 121, 122, 123, 124, 125] (by decide +kernel) (by decide +kernel)
set_option maxRecDepth 20000 in
theorem gX4_lowestBestPlace_X0_placesFor : GoodIn wsX4_lowestBestPlace (wsV RX4 210 RX0 yX0_placesFor wsX0_placesFor) := goodIn_app (goodIn_of _ (by decide +kernel)) ggX4_lowestBestPlace_X0_placesFor
theorem dX4_lowestBestPlace_0 : decode cX4_lowestBestPlace 0 = .ok (.iconst 0, 1) := by decide +kernel
theorem dX4_lowestBestPlace_1 : decode cX4_lowestBestPlace 1 = .ok (.istore_n 3, 1) := by decide +kernel
theorem dX4_lowestBestPlace_2 : decode cX4_lowestBestPlace 2 = .ok (.aload_n 0, 1) := by decide +kernel
theorem dX4_lowestBestPlace_3 : decode cX4_lowestBestPlace 3 = .ok (.iload_n 1, 1) := by decide +kernel
theorem dX4_lowestBestPlace_4 : decode cX4_lowestBestPlace 4 = .ok (.iload_n 2, 1) := by decide +kernel
theorem dX4_lowestBestPlace_5 : decode cX4_lowestBestPlace 5 = .ok (.iconst 0, 1) := by decide +kernel
theorem dX4_lowestBestPlace_6 : decode cX4_lowestBestPlace 6 = .ok (.invokevirtual 194, 3) := by decide +kernel
theorem dX4_lowestBestPlace_9 : decode cX4_lowestBestPlace 9 = .ok (.istore 4, 2) := by decide +kernel
theorem dX4_lowestBestPlace_11 : decode cX4_lowestBestPlace 11 = .ok (.aload_n 0, 1) := by decide +kernel
theorem dX4_lowestBestPlace_12 : decode cX4_lowestBestPlace 12 = .ok (.getfield 12, 3) := by decide +kernel
theorem dX4_lowestBestPlace_15 : decode cX4_lowestBestPlace 15 = .ok (.iload_n 1, 1) := by decide +kernel
theorem dX4_lowestBestPlace_16 : decode cX4_lowestBestPlace 16 = .ok (.iload_n 2, 1) := by decide +kernel
theorem dX4_lowestBestPlace_17 : decode cX4_lowestBestPlace 17 = .ok (.invokevirtual 210, 3) := by decide +kernel
theorem dX4_lowestBestPlace_20 : decode cX4_lowestBestPlace 20 = .ok (.istore 5, 2) := by decide +kernel
theorem dX4_lowestBestPlace_22 : decode cX4_lowestBestPlace 22 = .ok (.iconst 1, 1) := by decide +kernel
theorem dX4_lowestBestPlace_23 : decode cX4_lowestBestPlace 23 = .ok (.istore 6, 2) := by decide +kernel
theorem dX4_lowestBestPlace_25 : decode cX4_lowestBestPlace 25 = .ok (.iload 6, 2) := by decide +kernel
theorem dX4_lowestBestPlace_27 : decode cX4_lowestBestPlace 27 = .ok (.iload 5, 2) := by decide +kernel
theorem dX4_lowestBestPlace_29 : decode cX4_lowestBestPlace 29 = .ok (.if_icmp .ge 33, 3) := by decide +kernel
theorem dX4_lowestBestPlace_32 : decode cX4_lowestBestPlace 32 = .ok (.aload_n 0, 1) := by decide +kernel
theorem dX4_lowestBestPlace_33 : decode cX4_lowestBestPlace 33 = .ok (.iload_n 1, 1) := by decide +kernel
theorem dX4_lowestBestPlace_34 : decode cX4_lowestBestPlace 34 = .ok (.iload_n 2, 1) := by decide +kernel
theorem dX4_lowestBestPlace_35 : decode cX4_lowestBestPlace 35 = .ok (.iload 6, 2) := by decide +kernel
theorem dX4_lowestBestPlace_37 : decode cX4_lowestBestPlace 37 = .ok (.invokevirtual 194, 3) := by decide +kernel
theorem dX4_lowestBestPlace_40 : decode cX4_lowestBestPlace 40 = .ok (.istore 7, 2) := by decide +kernel
theorem dX4_lowestBestPlace_42 : decode cX4_lowestBestPlace 42 = .ok (.iload 7, 2) := by decide +kernel
theorem dX4_lowestBestPlace_44 : decode cX4_lowestBestPlace 44 = .ok (.iload 4, 2) := by decide +kernel
theorem dX4_lowestBestPlace_46 : decode cX4_lowestBestPlace 46 = .ok (.if_icmp .ge 10, 3) := by decide +kernel
theorem dX4_lowestBestPlace_49 : decode cX4_lowestBestPlace 49 = .ok (.iload 7, 2) := by decide +kernel
theorem dX4_lowestBestPlace_51 : decode cX4_lowestBestPlace 51 = .ok (.istore 4, 2) := by decide +kernel
theorem dX4_lowestBestPlace_53 : decode cX4_lowestBestPlace 53 = .ok (.iload 6, 2) := by decide +kernel
theorem dX4_lowestBestPlace_55 : decode cX4_lowestBestPlace 55 = .ok (.istore_n 3, 1) := by decide +kernel
theorem dX4_lowestBestPlace_56 : decode cX4_lowestBestPlace 56 = .ok (.iinc 6 1, 3) := by decide +kernel
theorem dX4_lowestBestPlace_59 : decode cX4_lowestBestPlace 59 = .ok (.goto (-34), 3) := by decide +kernel
theorem dX4_lowestBestPlace_62 : decode cX4_lowestBestPlace 62 = .ok (.iload_n 3, 1) := by decide +kernel
theorem dX4_lowestBestPlace_63 : decode cX4_lowestBestPlace 63 = .ok (.ireturn, 1) := by decide +kernel
set_option maxRecDepth 20000 in
theorem ggX4_lowestToMend_X4_breaksNow : GoodIn wsX4_lowestToMend wsX4_breaksNow := goodIn_r _ [6, 7, 1, 8, 9, 10, 11, 12, 13, 14, 15, 16, 5, 17, 18, 19, 20, 21, 22, 23, 24, 25, 26, 27, 28, 29, 30, 31, 32, 33, 34, 35, 36, 37, 38, 39, 40, 41, 42, 43, 44, 45, 46, 47, 48, 49, 50, 51, 52, 53, 54, 55, 56, 57, 58, 59, 60, 61, 62, 63, 64, 65, 66, 67, 68, 69, 70, 71, 72, 73, 74, 75, 76, 77, 78, 79, 119, 120, 121, 122, 123, 124, 125, 126, 127, 128, 129, 130, 131, 132, 133, 134, 135, 136, 137, 138, 139] (by decide +kernel) (by decide +kernel)
set_option maxRecDepth 20000 in
theorem gX4_lowestToMend_X4_breaksNow : GoodIn wsX4_lowestToMend (wsV RX4 100 RX4 yX4_breaksNow wsX4_breaksNow) := goodIn_app (goodIn_of _ (by decide +kernel)) ggX4_lowestToMend_X4_breaksNow
set_option maxRecDepth 20000 in
theorem ggX4_lowestToMend_X0_slotOf : GoodIn wsX4_lowestToMend wsX0_slotOf := goodIn_r _ [83, 42, 25, 5, 26, 125, 126, 127, 128, 129, 130, 131, 132, 133] (by decide +kernel) (by decide +kernel)
set_option maxRecDepth 20000 in
theorem gX4_lowestToMend_X0_slotOf : GoodIn wsX4_lowestToMend (wsV RX4 60 RX0 yX0_slotOf wsX0_slotOf) := goodIn_app (goodIn_of _ (by decide +kernel)) ggX4_lowestToMend_X0_slotOf
set_option maxRecDepth 20000 in
theorem ggX4_lowestToMend_X0_sceneOf : GoodIn wsX4_lowestToMend wsX0_sceneOf := goodIn_r _ [30, 31, 25, 5, 26, 125, 126, 127, 128, 129, 130, 131, 132, 133] (by decide +kernel) (by decide +kernel)
set_option maxRecDepth 20000 in
theorem gX4_lowestToMend_X0_sceneOf : GoodIn wsX4_lowestToMend (wsV RX4 87 RX0 yX0_sceneOf wsX0_sceneOf) := goodIn_app (goodIn_of _ (by decide +kernel)) ggX4_lowestToMend_X0_sceneOf
set_option maxRecDepth 20000 in
theorem ggX4_lowestToMend_X0_placesFor : GoodIn wsX4_lowestToMend wsX0_placesFor := goodIn_r _ [88, 89, 90, 91, 21, 92, 23, 31, 24, 25, 5, 26, 93, 28, 29, 30, 125, 126, 127, 128, 129, 130, 131, 132, 133] (by decide +kernel) (by decide +kernel)
set_option maxRecDepth 20000 in
theorem gX4_lowestToMend_X0_placesFor : GoodIn wsX4_lowestToMend (wsV RX4 210 RX0 yX0_placesFor wsX0_placesFor) := goodIn_app (goodIn_of _ (by decide +kernel)) ggX4_lowestToMend_X0_placesFor
set_option maxRecDepth 20000 in
theorem ggX4_lowestToMend_X4_breaksWith : GoodIn wsX4_lowestToMend wsX4_breaksWith := goodIn_r _ [97, 1, 7, 84, 28, 29, 21, 30, 31, 25, 5, 26, 98, 99, 100, 101, 102, 103, 104, 105, 23, 24, 93, 106, 107, 108, 109, 110, 111, 112, 113, 114, 70, 71, 115, 116, 117, 118, 8, 9, 10, 11, 12, 13, 14, 15, 16, 17, 18, 19, 20, 22, 27, 32, 33, 34, 35, 36, 37, 38, 39, 40, 41, 42, 43, 44, 45, 46, 47, 48, 49, 50, 51, 52, 53, 54, 55, 56, 57, 58, 59, 60, 61, 62, 63, 64, 65, 66, 67, 68, 69, 72, 73, 74, 75, 76, 77, 78, 79, 119, 120, 121, 122, 123, 124, 125, 126, 127, 128, 129, 130, 131, 132, 133, 134, 135, 136, 137, 138, 139] (by decide +kernel) (by decide +kernel)
set_option maxRecDepth 20000 in
theorem gX4_lowestToMend_X4_breaksWith : GoodIn wsX4_lowestToMend (wsV RX4 194 RX4 yX4_breaksWith wsX4_breaksWith) := goodIn_app (goodIn_of _ (by decide +kernel)) ggX4_lowestToMend_X4_breaksWith
theorem dX4_lowestToMend_0 : decode cX4_lowestToMend 0 = .ok (.aload_n 0, 1) := by decide +kernel
theorem dX4_lowestToMend_1 : decode cX4_lowestToMend 1 = .ok (.invokevirtual 100, 3) := by decide +kernel
theorem dX4_lowestToMend_4 : decode cX4_lowestToMend 4 = .ok (.istore_n 2, 1) := by decide +kernel
theorem dX4_lowestToMend_5 : decode cX4_lowestToMend 5 = .ok (.iload_n 2, 1) := by decide +kernel
theorem dX4_lowestToMend_6 : decode cX4_lowestToMend 6 = .ok (.ifCond .ne 5, 3) := by decide +kernel
theorem dX4_lowestToMend_9 : decode cX4_lowestToMend 9 = .ok (.iconst (-1), 1) := by decide +kernel
theorem dX4_lowestToMend_10 : decode cX4_lowestToMend 10 = .ok (.ireturn, 1) := by decide +kernel
theorem dX4_lowestToMend_11 : decode cX4_lowestToMend 11 = .ok (.iconst 0, 1) := by decide +kernel
theorem dX4_lowestToMend_12 : decode cX4_lowestToMend 12 = .ok (.istore_n 3, 1) := by decide +kernel
theorem dX4_lowestToMend_13 : decode cX4_lowestToMend 13 = .ok (.iload_n 3, 1) := by decide +kernel
theorem dX4_lowestToMend_14 : decode cX4_lowestToMend 14 = .ok (.aload_n 0, 1) := by decide +kernel
theorem dX4_lowestToMend_15 : decode cX4_lowestToMend 15 = .ok (.getfield 12, 3) := by decide +kernel
theorem dX4_lowestToMend_18 : decode cX4_lowestToMend 18 = .ok (.getfield 198, 3) := by decide +kernel
theorem dX4_lowestToMend_21 : decode cX4_lowestToMend 21 = .ok (.if_icmp .ge 91, 3) := by decide +kernel
theorem dX4_lowestToMend_24 : decode cX4_lowestToMend 24 = .ok (.iload_n 3, 1) := by decide +kernel
theorem dX4_lowestToMend_25 : decode cX4_lowestToMend 25 = .ok (.bipush 99, 2) := by decide +kernel
theorem dX4_lowestToMend_27 : decode cX4_lowestToMend 27 = .ok (.if_icmp .ge 85, 3) := by decide +kernel
theorem dX4_lowestToMend_30 : decode cX4_lowestToMend 30 = .ok (.aload_n 0, 1) := by decide +kernel
theorem dX4_lowestToMend_31 : decode cX4_lowestToMend 31 = .ok (.getfield 12, 3) := by decide +kernel
theorem dX4_lowestToMend_34 : decode cX4_lowestToMend 34 = .ok (.iload_n 3, 1) := by decide +kernel
theorem dX4_lowestToMend_35 : decode cX4_lowestToMend 35 = .ok (.invokevirtual 60, 3) := by decide +kernel
theorem dX4_lowestToMend_38 : decode cX4_lowestToMend 38 = .ok (.istore 4, 2) := by decide +kernel
theorem dX4_lowestToMend_40 : decode cX4_lowestToMend 40 = .ok (.iload 4, 2) := by decide +kernel
theorem dX4_lowestToMend_42 : decode cX4_lowestToMend 42 = .ok (.iconst (-1), 1) := by decide +kernel
theorem dX4_lowestToMend_43 : decode cX4_lowestToMend 43 = .ok (.if_icmp .eq 63, 3) := by decide +kernel
theorem dX4_lowestToMend_46 : decode cX4_lowestToMend 46 = .ok (.aload_n 0, 1) := by decide +kernel
theorem dX4_lowestToMend_47 : decode cX4_lowestToMend 47 = .ok (.getfield 12, 3) := by decide +kernel
theorem dX4_lowestToMend_50 : decode cX4_lowestToMend 50 = .ok (.iload 4, 2) := by decide +kernel
theorem dX4_lowestToMend_52 : decode cX4_lowestToMend 52 = .ok (.invokevirtual 87, 3) := by decide +kernel
theorem dX4_lowestToMend_55 : decode cX4_lowestToMend 55 = .ok (.iload_n 1, 1) := by decide +kernel
theorem dX4_lowestToMend_56 : decode cX4_lowestToMend 56 = .ok (.if_icmp .eq 6, 3) := by decide +kernel
theorem dX4_lowestToMend_59 : decode cX4_lowestToMend 59 = .ok (.goto 47, 3) := by decide +kernel
theorem dX4_lowestToMend_62 : decode cX4_lowestToMend 62 = .ok (.aload_n 0, 1) := by decide +kernel
theorem dX4_lowestToMend_63 : decode cX4_lowestToMend 63 = .ok (.getfield 12, 3) := by decide +kernel
theorem dX4_lowestToMend_66 : decode cX4_lowestToMend 66 = .ok (.iload 4, 2) := by decide +kernel
theorem dX4_lowestToMend_68 : decode cX4_lowestToMend 68 = .ok (.iload_n 1, 1) := by decide +kernel
theorem dX4_lowestToMend_69 : decode cX4_lowestToMend 69 = .ok (.invokevirtual 210, 3) := by decide +kernel
theorem dX4_lowestToMend_72 : decode cX4_lowestToMend 72 = .ok (.istore 5, 2) := by decide +kernel
theorem dX4_lowestToMend_74 : decode cX4_lowestToMend 74 = .ok (.iconst 0, 1) := by decide +kernel
theorem dX4_lowestToMend_75 : decode cX4_lowestToMend 75 = .ok (.istore 6, 2) := by decide +kernel
theorem dX4_lowestToMend_77 : decode cX4_lowestToMend 77 = .ok (.iload 6, 2) := by decide +kernel
theorem dX4_lowestToMend_79 : decode cX4_lowestToMend 79 = .ok (.iload 5, 2) := by decide +kernel
theorem dX4_lowestToMend_81 : decode cX4_lowestToMend 81 = .ok (.if_icmp .ge 25, 3) := by decide +kernel
theorem dX4_lowestToMend_84 : decode cX4_lowestToMend 84 = .ok (.aload_n 0, 1) := by decide +kernel
theorem dX4_lowestToMend_85 : decode cX4_lowestToMend 85 = .ok (.iload 4, 2) := by decide +kernel
theorem dX4_lowestToMend_87 : decode cX4_lowestToMend 87 = .ok (.iload_n 1, 1) := by decide +kernel
theorem dX4_lowestToMend_88 : decode cX4_lowestToMend 88 = .ok (.iload 6, 2) := by decide +kernel
theorem dX4_lowestToMend_90 : decode cX4_lowestToMend 90 = .ok (.invokevirtual 194, 3) := by decide +kernel
theorem dX4_lowestToMend_93 : decode cX4_lowestToMend 93 = .ok (.iload_n 2, 1) := by decide +kernel
theorem dX4_lowestToMend_94 : decode cX4_lowestToMend 94 = .ok (.if_icmp .ge 6, 3) := by decide +kernel
theorem dX4_lowestToMend_97 : decode cX4_lowestToMend 97 = .ok (.iload 4, 2) := by decide +kernel
theorem dX4_lowestToMend_99 : decode cX4_lowestToMend 99 = .ok (.ireturn, 1) := by decide +kernel
theorem dX4_lowestToMend_100 : decode cX4_lowestToMend 100 = .ok (.iinc 6 1, 3) := by decide +kernel
theorem dX4_lowestToMend_103 : decode cX4_lowestToMend 103 = .ok (.goto (-26), 3) := by decide +kernel
theorem dX4_lowestToMend_106 : decode cX4_lowestToMend 106 = .ok (.iinc 3 1, 3) := by decide +kernel
theorem dX4_lowestToMend_109 : decode cX4_lowestToMend 109 = .ok (.goto (-96), 3) := by decide +kernel
theorem dX4_lowestToMend_112 : decode cX4_lowestToMend 112 = .ok (.iconst (-1), 1) := by decide +kernel
theorem dX4_lowestToMend_113 : decode cX4_lowestToMend 113 = .ok (.ireturn, 1) := by decide +kernel
set_option maxRecDepth 20000 in
theorem ggX4_breaksHaving_X4_breaksNow : GoodIn wsX4_breaksHaving wsX4_breaksNow := goodIn_r _ [6, 1, 7, 8, 9, 10, 11, 12, 13, 14, 15, 16, 5, 17, 18, 19, 20, 21, 22, 23, 24, 25, 26, 27, 28, 29, 30, 31, 32, 33, 34, 35, 36, 37, 38, 39, 40, 41, 42, 43, 44, 45, 46, 47, 48, 49, 50, 51, 52, 53, 54, 55, 56, 57, 58, 59, 60, 61, 62, 63, 64, 65, 66, 67, 68, 69, 70, 71, 72, 73, 74, 75, 76, 77, 78, 79, 84, 85, 86, 87, 88, 89, 90, 91, 92, 93, 94, 95, 96, 97, 98, 99, 100, 101, 102, 103, 104] (by decide +kernel) (by decide +kernel)
set_option maxRecDepth 20000 in
theorem gX4_breaksHaving_X4_breaksNow : GoodIn wsX4_breaksHaving (wsV RX4 100 RX4 yX4_breaksNow wsX4_breaksNow) := goodIn_app (goodIn_of _ (by decide +kernel)) ggX4_breaksHaving_X4_breaksNow
set_option maxRecDepth 20000 in
theorem ggX4_breaksHaving_X1_numberOfBreak : GoodIn wsX4_breaksHaving wsX1_numberOfBreak := goodIn_r _ [83, 69, 25, 5, 26, 99, 100, 101, 102, 103, 104] (by decide +kernel) (by decide +kernel)
set_option maxRecDepth 20000 in
theorem gX4_breaksHaving_X1_numberOfBreak : GoodIn wsX4_breaksHaving (wsV RX4 188 RX1 yX1_numberOfBreak wsX1_numberOfBreak) := goodIn_app (goodIn_of _ (by decide +kernel)) ggX4_breaksHaving_X1_numberOfBreak
theorem dX4_breaksHaving_0 : decode cX4_breaksHaving 0 = .ok (.aload_n 0, 1) := by decide +kernel
theorem dX4_breaksHaving_1 : decode cX4_breaksHaving 1 = .ok (.invokevirtual 100, 3) := by decide +kernel
theorem dX4_breaksHaving_4 : decode cX4_breaksHaving 4 = .ok (.istore_n 3, 1) := by decide +kernel
theorem dX4_breaksHaving_5 : decode cX4_breaksHaving 5 = .ok (.iconst 0, 1) := by decide +kernel
theorem dX4_breaksHaving_6 : decode cX4_breaksHaving 6 = .ok (.istore 4, 2) := by decide +kernel
theorem dX4_breaksHaving_8 : decode cX4_breaksHaving 8 = .ok (.iconst 0, 1) := by decide +kernel
theorem dX4_breaksHaving_9 : decode cX4_breaksHaving 9 = .ok (.istore 5, 2) := by decide +kernel
theorem dX4_breaksHaving_11 : decode cX4_breaksHaving 11 = .ok (.iload 5, 2) := by decide +kernel
theorem dX4_breaksHaving_13 : decode cX4_breaksHaving 13 = .ok (.iload_n 3, 1) := by decide +kernel
theorem dX4_breaksHaving_14 : decode cX4_breaksHaving 14 = .ok (.if_icmp .ge 26, 3) := by decide +kernel
theorem dX4_breaksHaving_17 : decode cX4_breaksHaving 17 = .ok (.aload_n 0, 1) := by decide +kernel
theorem dX4_breaksHaving_18 : decode cX4_breaksHaving 18 = .ok (.getfield 40, 3) := by decide +kernel
theorem dX4_breaksHaving_21 : decode cX4_breaksHaving 21 = .ok (.iload 5, 2) := by decide +kernel
theorem dX4_breaksHaving_23 : decode cX4_breaksHaving 23 = .ok (.iload_n 1, 1) := by decide +kernel
theorem dX4_breaksHaving_24 : decode cX4_breaksHaving 24 = .ok (.invokevirtual 188, 3) := by decide +kernel
theorem dX4_breaksHaving_27 : decode cX4_breaksHaving 27 = .ok (.iload_n 2, 1) := by decide +kernel
theorem dX4_breaksHaving_28 : decode cX4_breaksHaving 28 = .ok (.if_icmp .ne 6, 3) := by decide +kernel
theorem dX4_breaksHaving_31 : decode cX4_breaksHaving 31 = .ok (.iinc 4 1, 3) := by decide +kernel
theorem dX4_breaksHaving_34 : decode cX4_breaksHaving 34 = .ok (.iinc 5 1, 3) := by decide +kernel
theorem dX4_breaksHaving_37 : decode cX4_breaksHaving 37 = .ok (.goto (-26), 3) := by decide +kernel
theorem dX4_breaksHaving_40 : decode cX4_breaksHaving 40 = .ok (.iload 4, 2) := by decide +kernel
theorem dX4_breaksHaving_42 : decode cX4_breaksHaving 42 = .ok (.ireturn, 1) := by decide +kernel
set_option maxRecDepth 20000 in
theorem ggX4_breaksOfScene_X4_breaksNow : GoodIn wsX4_breaksOfScene wsX4_breaksNow := goodIn_r _ [5, 6, 7, 8, 9, 10, 11, 12, 13, 14, 15, 16, 4, 17, 18, 19, 20, 21, 22, 23, 24, 25, 26, 27, 28, 29, 30, 31, 32, 33, 34, 35, 36, 37, 38, 39, 40, 41, 42, 43, 44, 45, 46, 47, 48, 49, 50, 51, 52, 53, 54, 55, 56, 57, 58, 59, 60, 61, 62, 63, 64, 65, 66, 67, 68, 69, 70, 71, 72, 73, 74, 75, 76, 77, 78, 79, 93, 94, 95, 96, 97, 98, 99, 100, 101, 102, 103, 104, 105, 106, 107, 108, 109, 110, 111, 112, 113] (by decide +kernel) (by decide +kernel)
set_option maxRecDepth 20000 in
theorem gX4_breaksOfScene_X4_breaksNow : GoodIn wsX4_breaksOfScene (wsV RX4 100 RX4 yX4_breaksNow wsX4_breaksNow) := goodIn_app (goodIn_of _ (by decide +kernel)) ggX4_breaksOfScene_X4_breaksNow
set_option maxRecDepth 20000 in
theorem ggX4_breaksOfScene_X4_sceneOfBreak : GoodIn wsX4_breaksOfScene wsX4_sceneOfBreak := goodIn_r _ [83, 6, 7, 84, 85, 86, 11, 87, 69, 25, 4, 26, 88, 89, 90, 21, 91, 42, 92, 28, 29, 30, 31, 93, 94, 95, 96, 97, 98, 108, 109, 110, 111, 112, 113, 99, 100, 101, 102, 103, 104, 105, 106, 107] (by decide +kernel) (by decide +kernel)
set_option maxRecDepth 20000 in
theorem gX4_breaksOfScene_X4_sceneOfBreak : GoodIn wsX4_breaksOfScene (wsV RX4 213 RX4 yX4_sceneOfBreak wsX4_sceneOfBreak) := goodIn_app (goodIn_of _ (by decide +kernel)) ggX4_breaksOfScene_X4_sceneOfBreak
theorem dX4_breaksOfScene_0 : decode cX4_breaksOfScene 0 = .ok (.aload_n 0, 1) := by decide +kernel
theorem dX4_breaksOfScene_1 : decode cX4_breaksOfScene 1 = .ok (.invokevirtual 100, 3) := by decide +kernel
theorem dX4_breaksOfScene_4 : decode cX4_breaksOfScene 4 = .ok (.istore_n 2, 1) := by decide +kernel
theorem dX4_breaksOfScene_5 : decode cX4_breaksOfScene 5 = .ok (.iconst 0, 1) := by decide +kernel
theorem dX4_breaksOfScene_6 : decode cX4_breaksOfScene 6 = .ok (.istore_n 3, 1) := by decide +kernel
theorem dX4_breaksOfScene_7 : decode cX4_breaksOfScene 7 = .ok (.iconst 0, 1) := by decide +kernel
theorem dX4_breaksOfScene_8 : decode cX4_breaksOfScene 8 = .ok (.istore 4, 2) := by decide +kernel
theorem dX4_breaksOfScene_10 : decode cX4_breaksOfScene 10 = .ok (.iload 4, 2) := by decide +kernel
theorem dX4_breaksOfScene_12 : decode cX4_breaksOfScene 12 = .ok (.iload_n 2, 1) := by decide +kernel
theorem dX4_breaksOfScene_13 : decode cX4_breaksOfScene 13 = .ok (.if_icmp .ge 22, 3) := by decide +kernel
theorem dX4_breaksOfScene_16 : decode cX4_breaksOfScene 16 = .ok (.aload_n 0, 1) := by decide +kernel
theorem dX4_breaksOfScene_17 : decode cX4_breaksOfScene 17 = .ok (.iload 4, 2) := by decide +kernel
theorem dX4_breaksOfScene_19 : decode cX4_breaksOfScene 19 = .ok (.invokevirtual 213, 3) := by decide +kernel
theorem dX4_breaksOfScene_22 : decode cX4_breaksOfScene 22 = .ok (.iload_n 1, 1) := by decide +kernel
theorem dX4_breaksOfScene_23 : decode cX4_breaksOfScene 23 = .ok (.if_icmp .ne 6, 3) := by decide +kernel
theorem dX4_breaksOfScene_26 : decode cX4_breaksOfScene 26 = .ok (.iinc 3 1, 3) := by decide +kernel
theorem dX4_breaksOfScene_29 : decode cX4_breaksOfScene 29 = .ok (.iinc 4 1, 3) := by decide +kernel
theorem dX4_breaksOfScene_32 : decode cX4_breaksOfScene 32 = .ok (.goto (-22), 3) := by decide +kernel
theorem dX4_breaksOfScene_35 : decode cX4_breaksOfScene 35 = .ok (.iload_n 3, 1) := by decide +kernel
theorem dX4_breaksOfScene_36 : decode cX4_breaksOfScene 36 = .ok (.ireturn, 1) := by decide +kernel
set_option maxRecDepth 20000 in
theorem ggX4_rankOfFirstBreak_X4_breaksNow : GoodIn wsX4_rankOfFirstBreak wsX4_breaksNow := goodIn_r _ [5, 6, 7, 8, 9, 10, 11, 12, 13, 14, 15, 16, 4, 17, 18, 19, 20, 21, 22, 23, 24, 25, 26, 27, 28, 29, 30, 31, 32, 33, 34, 35, 36, 37, 38, 39, 40, 41, 42, 43, 44, 45, 46, 47, 48, 49, 50, 51, 52, 53, 54, 55, 56, 57, 58, 59, 60, 61, 62, 63, 64, 65, 66, 67, 68, 69, 70, 71, 72, 73, 74, 75, 76, 77, 78, 79, 93, 94, 95, 96, 97, 98, 99, 100, 101, 102, 103, 104, 105, 106, 107, 108, 109, 110, 111, 112, 113] (by decide +kernel) (by decide +kernel)
set_option maxRecDepth 20000 in
theorem gX4_rankOfFirstBreak_X4_breaksNow : GoodIn wsX4_rankOfFirstBreak (wsV RX4 100 RX4 yX4_breaksNow wsX4_breaksNow) := goodIn_app (goodIn_of _ (by decide +kernel)) ggX4_rankOfFirstBreak_X4_breaksNow
set_option maxRecDepth 20000 in
theorem ggX4_rankOfFirstBreak_X4_sceneOfBreak : GoodIn wsX4_rankOfFirstBreak wsX4_sceneOfBreak := goodIn_r _ [83, 6, 7, 84, 85, 86, 11, 87, 69, 25, 4, 26, 88, 89, 90, 21, 91, 42, 92, 28, 29, 30, 31, 93, 94, 95, 96, 97, 98, 108, 109, 110, 111, 112, 113, 99, 100, 101, 102, 103, 104, 105, 106, 107] (by decide +kernel) (by decide +kernel)
set_option maxRecDepth 20000 in
theorem gX4_rankOfFirstBreak_X4_sceneOfBreak : GoodIn wsX4_rankOfFirstBreak (wsV RX4 213 RX4 yX4_sceneOfBreak wsX4_sceneOfBreak) := goodIn_app (goodIn_of _ (by decide +kernel)) ggX4_rankOfFirstBreak_X4_sceneOfBreak
theorem dX4_rankOfFirstBreak_0 : decode cX4_rankOfFirstBreak 0 = .ok (.aload_n 0, 1) := by decide +kernel
theorem dX4_rankOfFirstBreak_1 : decode cX4_rankOfFirstBreak 1 = .ok (.invokevirtual 100, 3) := by decide +kernel
theorem dX4_rankOfFirstBreak_4 : decode cX4_rankOfFirstBreak 4 = .ok (.istore_n 2, 1) := by decide +kernel
theorem dX4_rankOfFirstBreak_5 : decode cX4_rankOfFirstBreak 5 = .ok (.iconst 0, 1) := by decide +kernel
theorem dX4_rankOfFirstBreak_6 : decode cX4_rankOfFirstBreak 6 = .ok (.istore_n 3, 1) := by decide +kernel
theorem dX4_rankOfFirstBreak_7 : decode cX4_rankOfFirstBreak 7 = .ok (.iload_n 3, 1) := by decide +kernel
theorem dX4_rankOfFirstBreak_8 : decode cX4_rankOfFirstBreak 8 = .ok (.iload_n 2, 1) := by decide +kernel
theorem dX4_rankOfFirstBreak_9 : decode cX4_rankOfFirstBreak 9 = .ok (.if_icmp .ge 20, 3) := by decide +kernel
theorem dX4_rankOfFirstBreak_12 : decode cX4_rankOfFirstBreak 12 = .ok (.aload_n 0, 1) := by decide +kernel
theorem dX4_rankOfFirstBreak_13 : decode cX4_rankOfFirstBreak 13 = .ok (.iload_n 3, 1) := by decide +kernel
theorem dX4_rankOfFirstBreak_14 : decode cX4_rankOfFirstBreak 14 = .ok (.invokevirtual 213, 3) := by decide +kernel
theorem dX4_rankOfFirstBreak_17 : decode cX4_rankOfFirstBreak 17 = .ok (.iload_n 1, 1) := by decide +kernel
theorem dX4_rankOfFirstBreak_18 : decode cX4_rankOfFirstBreak 18 = .ok (.if_icmp .ne 5, 3) := by decide +kernel
theorem dX4_rankOfFirstBreak_21 : decode cX4_rankOfFirstBreak 21 = .ok (.iload_n 3, 1) := by decide +kernel
theorem dX4_rankOfFirstBreak_22 : decode cX4_rankOfFirstBreak 22 = .ok (.ireturn, 1) := by decide +kernel
theorem dX4_rankOfFirstBreak_23 : decode cX4_rankOfFirstBreak 23 = .ok (.iinc 3 1, 3) := by decide +kernel
theorem dX4_rankOfFirstBreak_26 : decode cX4_rankOfFirstBreak 26 = .ok (.goto (-19), 3) := by decide +kernel
theorem dX4_rankOfFirstBreak_29 : decode cX4_rankOfFirstBreak 29 = .ok (.iconst (-1), 1) := by decide +kernel
theorem dX4_rankOfFirstBreak_30 : decode cX4_rankOfFirstBreak 30 = .ok (.ireturn, 1) := by decide +kernel
set_option maxRecDepth 20000 in
theorem ggX4_sceneOfBreak_X1_numberOfBreak : GoodIn wsX4_sceneOfBreak wsX1_numberOfBreak := goodIn_r _ [7, 8, 9, 10, 11, 29, 30, 31, 32, 33, 34] (by decide +kernel) (by decide +kernel)
set_option maxRecDepth 20000 in
theorem gX4_sceneOfBreak_X1_numberOfBreak : GoodIn wsX4_sceneOfBreak (wsV RX4 188 RX1 yX1_numberOfBreak wsX1_numberOfBreak) := goodIn_app (goodIn_of _ (by decide +kernel)) ggX4_sceneOfBreak_X1_numberOfBreak
set_option maxRecDepth 20000 in
theorem ggX4_sceneOfBreak_X0_slotOf : GoodIn wsX4_sceneOfBreak wsX0_slotOf := goodIn_r _ [16, 17, 9, 10, 11, 35, 36, 37, 38, 39, 40, 41, 42, 43] (by decide +kernel) (by decide +kernel)
set_option maxRecDepth 20000 in
theorem gX4_sceneOfBreak_X0_slotOf : GoodIn wsX4_sceneOfBreak (wsV RX4 60 RX0 yX0_slotOf wsX0_slotOf) := goodIn_app (goodIn_of _ (by decide +kernel)) ggX4_sceneOfBreak_X0_slotOf
set_option maxRecDepth 20000 in
theorem ggX4_sceneOfBreak_X0_sceneOf : GoodIn wsX4_sceneOfBreak wsX0_sceneOf := goodIn_r _ [21, 22, 9, 10, 11, 35, 36, 37, 38, 39, 40, 41, 42, 43] (by decide +kernel) (by decide +kernel)
set_option maxRecDepth 20000 in
theorem gX4_sceneOfBreak_X0_sceneOf : GoodIn wsX4_sceneOfBreak (wsV RX4 87 RX0 yX0_sceneOf wsX0_sceneOf) := goodIn_app (goodIn_of _ (by decide +kernel)) ggX4_sceneOfBreak_X0_sceneOf
theorem dX4_sceneOfBreak_0 : decode cX4_sceneOfBreak 0 = .ok (.aload_n 0, 1) := by decide +kernel
theorem dX4_sceneOfBreak_1 : decode cX4_sceneOfBreak 1 = .ok (.getfield 40, 3) := by decide +kernel
theorem dX4_sceneOfBreak_4 : decode cX4_sceneOfBreak 4 = .ok (.iload_n 1, 1) := by decide +kernel
theorem dX4_sceneOfBreak_5 : decode cX4_sceneOfBreak 5 = .ok (.iconst 0, 1) := by decide +kernel
theorem dX4_sceneOfBreak_6 : decode cX4_sceneOfBreak 6 = .ok (.invokevirtual 188, 3) := by decide +kernel
theorem dX4_sceneOfBreak_9 : decode cX4_sceneOfBreak 9 = .ok (.istore_n 2, 1) := by decide +kernel
theorem dX4_sceneOfBreak_10 : decode cX4_sceneOfBreak 10 = .ok (.aload_n 0, 1) := by decide +kernel
theorem dX4_sceneOfBreak_11 : decode cX4_sceneOfBreak 11 = .ok (.getfield 12, 3) := by decide +kernel
theorem dX4_sceneOfBreak_14 : decode cX4_sceneOfBreak 14 = .ok (.aload_n 0, 1) := by decide +kernel
theorem dX4_sceneOfBreak_15 : decode cX4_sceneOfBreak 15 = .ok (.getfield 12, 3) := by decide +kernel
theorem dX4_sceneOfBreak_18 : decode cX4_sceneOfBreak 18 = .ok (.iload_n 2, 1) := by decide +kernel
theorem dX4_sceneOfBreak_19 : decode cX4_sceneOfBreak 19 = .ok (.invokevirtual 60, 3) := by decide +kernel
theorem dX4_sceneOfBreak_22 : decode cX4_sceneOfBreak 22 = .ok (.invokevirtual 87, 3) := by decide +kernel
theorem dX4_sceneOfBreak_25 : decode cX4_sceneOfBreak 25 = .ok (.ireturn, 1) := by decide +kernel
set_option maxRecDepth 20000 in
theorem ggX4_propsHeldAtTheEnd_X1_goThrough : GoodIn wsX4_propsHeldAtTheEnd wsX1_goThrough := goodIn_r _ [7, 8, 9, 10, 11, 12, 13, 14, 15, 16, 17, 18, 19, 20, 21, 22, 23, 24, 25, 26, 27, 28, 29, 30, 6, 31, 32, 33, 34, 35, 36, 37, 38, 39, 40, 41, 42, 43, 44, 45, 46, 47, 48, 49, 50, 51, 52, 53, 54, 55, 56, 57, 58, 59, 60, 61, 62, 63, 64, 65, 66, 67, 68, 69, 70, 71, 72, 73, 74, 75, 95, 96, 97, 98, 99, 100, 86, 87, 88, 89, 90, 91, 92, 93, 94] (by decide +kernel) (by decide +kernel)
set_option maxRecDepth 20000 in
theorem gX4_propsHeldAtTheEnd_X1_goThrough : GoodIn wsX4_propsHeldAtTheEnd (wsV RX4 181 RX1 yX1_goThrough wsX1_goThrough) := goodIn_app (goodIn_of _ (by decide +kernel)) ggX4_propsHeldAtTheEnd_X1_goThrough
set_option maxRecDepth 20000 in
theorem ggX4_propsHeldAtTheEnd_X1_propsHeld : GoodIn wsX4_propsHeldAtTheEnd wsX1_propsHeld := goodIn_r _ [79, 8, 21, 12, 22, 95, 96, 97, 98, 99, 100] (by decide +kernel) (by decide +kernel)
set_option maxRecDepth 20000 in
theorem gX4_propsHeldAtTheEnd_X1_propsHeld : GoodIn wsX4_propsHeldAtTheEnd (wsV RX4 216 RX1 yX1_propsHeld wsX1_propsHeld) := goodIn_app (goodIn_of _ (by decide +kernel)) ggX4_propsHeldAtTheEnd_X1_propsHeld
theorem dX4_propsHeldAtTheEnd_0 : decode cX4_propsHeldAtTheEnd 0 = .ok (.aload_n 0, 1) := by decide +kernel
theorem dX4_propsHeldAtTheEnd_1 : decode cX4_propsHeldAtTheEnd 1 = .ok (.getfield 40, 3) := by decide +kernel
theorem dX4_propsHeldAtTheEnd_4 : decode cX4_propsHeldAtTheEnd 4 = .ok (.aload_n 0, 1) := by decide +kernel
theorem dX4_propsHeldAtTheEnd_5 : decode cX4_propsHeldAtTheEnd 5 = .ok (.getfield 12, 3) := by decide +kernel
theorem dX4_propsHeldAtTheEnd_8 : decode cX4_propsHeldAtTheEnd 8 = .ok (.aload_n 0, 1) := by decide +kernel
theorem dX4_propsHeldAtTheEnd_9 : decode cX4_propsHeldAtTheEnd 9 = .ok (.getfield 12, 3) := by decide +kernel
theorem dX4_propsHeldAtTheEnd_12 : decode cX4_propsHeldAtTheEnd 12 = .ok (.getfield 75, 3) := by decide +kernel
theorem dX4_propsHeldAtTheEnd_15 : decode cX4_propsHeldAtTheEnd 15 = .ok (.invokevirtual 181, 3) := by decide +kernel
theorem dX4_propsHeldAtTheEnd_18 : decode cX4_propsHeldAtTheEnd 18 = .ok (.aload_n 0, 1) := by decide +kernel
theorem dX4_propsHeldAtTheEnd_19 : decode cX4_propsHeldAtTheEnd 19 = .ok (.getfield 40, 3) := by decide +kernel
theorem dX4_propsHeldAtTheEnd_22 : decode cX4_propsHeldAtTheEnd 22 = .ok (.invokevirtual 216, 3) := by decide +kernel
theorem dX4_propsHeldAtTheEnd_25 : decode cX4_propsHeldAtTheEnd 25 = .ok (.ireturn, 1) := by decide +kernel
set_option maxRecDepth 20000 in
theorem ggX4_ticksOfScene_X0_panelsAhead : GoodIn wsX4_ticksOfScene wsX0_panelsAhead := goodIn_r _ [6, 7, 8, 9, 10, 11, 12, 13, 33, 34, 35, 36, 37, 38, 39, 40, 41] (by decide +kernel) (by decide +kernel)
set_option maxRecDepth 20000 in
theorem gX4_ticksOfScene_X0_panelsAhead : GoodIn wsX4_ticksOfScene (wsV RX4 178 RX0 yX0_panelsAhead wsX0_panelsAhead) := goodIn_app (goodIn_of _ (by decide +kernel)) ggX4_ticksOfScene_X0_panelsAhead
set_option maxRecDepth 20000 in
theorem ggX4_ticksOfScene_X0_panelsIn : GoodIn wsX4_ticksOfScene wsX0_panelsIn := goodIn_r _ [17, 8, 9, 10, 11, 12, 13, 33, 34, 35, 36, 37, 38, 39, 40, 41] (by decide +kernel) (by decide +kernel)
set_option maxRecDepth 20000 in
theorem gX4_ticksOfScene_X0_panelsIn : GoodIn wsX4_ticksOfScene (wsV RX4 169 RX0 yX0_panelsIn wsX0_panelsIn) := goodIn_app (goodIn_of _ (by decide +kernel)) ggX4_ticksOfScene_X0_panelsIn
set_option maxRecDepth 20000 in
theorem ggX4_ticksOfScene_X0_ticksAhead : GoodIn wsX4_ticksOfScene wsX0_ticksAhead := goodIn_r _ [21, 8, 10, 11, 12, 13, 22, 23, 24, 5, 25, 26, 33, 34, 35, 36, 37, 38, 39, 40, 41] (by decide +kernel) (by decide +kernel)
set_option maxRecDepth 20000 in
theorem gX4_ticksOfScene_X0_ticksAhead : GoodIn wsX4_ticksOfScene (wsV RX4 142 RX0 yX0_ticksAhead wsX0_ticksAhead) := goodIn_app (goodIn_of _ (by decide +kernel)) ggX4_ticksOfScene_X0_ticksAhead
theorem dX4_ticksOfScene_0 : decode cX4_ticksOfScene 0 = .ok (.aload_n 0, 1) := by decide +kernel
theorem dX4_ticksOfScene_1 : decode cX4_ticksOfScene 1 = .ok (.getfield 12, 3) := by decide +kernel
theorem dX4_ticksOfScene_4 : decode cX4_ticksOfScene 4 = .ok (.iload_n 1, 1) := by decide +kernel
theorem dX4_ticksOfScene_5 : decode cX4_ticksOfScene 5 = .ok (.invokevirtual 178, 3) := by decide +kernel
theorem dX4_ticksOfScene_8 : decode cX4_ticksOfScene 8 = .ok (.istore_n 2, 1) := by decide +kernel
theorem dX4_ticksOfScene_9 : decode cX4_ticksOfScene 9 = .ok (.aload_n 0, 1) := by decide +kernel
theorem dX4_ticksOfScene_10 : decode cX4_ticksOfScene 10 = .ok (.getfield 12, 3) := by decide +kernel
theorem dX4_ticksOfScene_13 : decode cX4_ticksOfScene 13 = .ok (.iload_n 2, 1) := by decide +kernel
theorem dX4_ticksOfScene_14 : decode cX4_ticksOfScene 14 = .ok (.aload_n 0, 1) := by decide +kernel
theorem dX4_ticksOfScene_15 : decode cX4_ticksOfScene 15 = .ok (.getfield 12, 3) := by decide +kernel
theorem dX4_ticksOfScene_18 : decode cX4_ticksOfScene 18 = .ok (.iload_n 1, 1) := by decide +kernel
theorem dX4_ticksOfScene_19 : decode cX4_ticksOfScene 19 = .ok (.invokevirtual 169, 3) := by decide +kernel
theorem dX4_ticksOfScene_22 : decode cX4_ticksOfScene 22 = .ok (.iadd, 1) := by decide +kernel
theorem dX4_ticksOfScene_23 : decode cX4_ticksOfScene 23 = .ok (.invokevirtual 142, 3) := by decide +kernel
theorem dX4_ticksOfScene_26 : decode cX4_ticksOfScene 26 = .ok (.aload_n 0, 1) := by decide +kernel
theorem dX4_ticksOfScene_27 : decode cX4_ticksOfScene 27 = .ok (.getfield 12, 3) := by decide +kernel
theorem dX4_ticksOfScene_30 : decode cX4_ticksOfScene 30 = .ok (.iload_n 2, 1) := by decide +kernel
theorem dX4_ticksOfScene_31 : decode cX4_ticksOfScene 31 = .ok (.invokevirtual 142, 3) := by decide +kernel
theorem dX4_ticksOfScene_34 : decode cX4_ticksOfScene 34 = .ok (.isub, 1) := by decide +kernel
theorem dX4_ticksOfScene_35 : decode cX4_ticksOfScene 35 = .ok (.ireturn, 1) := by decide +kernel
theorem dX4_isScene_0 : decode cX4_isScene 0 = .ok (.iload_n 0, 1) := by decide +kernel
theorem dX4_isScene_1 : decode cX4_isScene 1 = .ok (.ifCond .lt 12, 3) := by decide +kernel
theorem dX4_isScene_4 : decode cX4_isScene 4 = .ok (.iload_n 0, 1) := by decide +kernel
theorem dX4_isScene_5 : decode cX4_isScene 5 = .ok (.iconst 5, 1) := by decide +kernel
theorem dX4_isScene_6 : decode cX4_isScene 6 = .ok (.if_icmp .ge 7, 3) := by decide +kernel
theorem dX4_isScene_9 : decode cX4_isScene 9 = .ok (.iconst 1, 1) := by decide +kernel
theorem dX4_isScene_10 : decode cX4_isScene 10 = .ok (.goto 4, 3) := by decide +kernel
theorem dX4_isScene_13 : decode cX4_isScene 13 = .ok (.iconst 0, 1) := by decide +kernel
theorem dX4_isScene_14 : decode cX4_isScene 14 = .ok (.ireturn, 1) := by decide +kernel
theorem dX4_isScenePlace_0 : decode cX4_isScenePlace 0 = .ok (.iload_n 0, 1) := by decide +kernel
theorem dX4_isScenePlace_1 : decode cX4_isScenePlace 1 = .ok (.ifCond .lt 12, 3) := by decide +kernel
theorem dX4_isScenePlace_4 : decode cX4_isScenePlace 4 = .ok (.iload_n 0, 1) := by decide +kernel
theorem dX4_isScenePlace_5 : decode cX4_isScenePlace 5 = .ok (.iconst 5, 1) := by decide +kernel
theorem dX4_isScenePlace_6 : decode cX4_isScenePlace 6 = .ok (.if_icmp .ge 7, 3) := by decide +kernel
theorem dX4_isScenePlace_9 : decode cX4_isScenePlace 9 = .ok (.iconst 1, 1) := by decide +kernel
theorem dX4_isScenePlace_10 : decode cX4_isScenePlace 10 = .ok (.goto 4, 3) := by decide +kernel
theorem dX4_isScenePlace_13 : decode cX4_isScenePlace 13 = .ok (.iconst 0, 1) := by decide +kernel
theorem dX4_isScenePlace_14 : decode cX4_isScenePlace 14 = .ok (.ireturn, 1) := by decide +kernel
theorem dX4_takesProp_0 : decode cX4_takesProp 0 = .ok (.iload_n 0, 1) := by decide +kernel
theorem dX4_takesProp_1 : decode cX4_takesProp 1 = .ok (.ifCond .eq 13, 3) := by decide +kernel
theorem dX4_takesProp_4 : decode cX4_takesProp 4 = .ok (.iload_n 0, 1) := by decide +kernel
theorem dX4_takesProp_5 : decode cX4_takesProp 5 = .ok (.iconst 1, 1) := by decide +kernel
theorem dX4_takesProp_6 : decode cX4_takesProp 6 = .ok (.if_icmp .eq 8, 3) := by decide +kernel
theorem dX4_takesProp_9 : decode cX4_takesProp 9 = .ok (.iload_n 0, 1) := by decide +kernel
theorem dX4_takesProp_10 : decode cX4_takesProp 10 = .ok (.iconst 2, 1) := by decide +kernel
theorem dX4_takesProp_11 : decode cX4_takesProp 11 = .ok (.if_icmp .ne 7, 3) := by decide +kernel
theorem dX4_takesProp_14 : decode cX4_takesProp 14 = .ok (.iconst 1, 1) := by decide +kernel
theorem dX4_takesProp_15 : decode cX4_takesProp 15 = .ok (.goto 4, 3) := by decide +kernel
theorem dX4_takesProp_18 : decode cX4_takesProp 18 = .ok (.iconst 0, 1) := by decide +kernel
theorem dX4_takesProp_19 : decode cX4_takesProp 19 = .ok (.ireturn, 1) := by decide +kernel
theorem dX4_codeOf_0 : decode cX4_codeOf 0 = .ok (.iload_n 0, 1) := by decide +kernel
theorem dX4_codeOf_1 : decode cX4_codeOf 1 = .ok (.bipush 100, 2) := by decide +kernel
theorem dX4_codeOf_3 : decode cX4_codeOf 3 = .ok (.imul, 1) := by decide +kernel
theorem dX4_codeOf_4 : decode cX4_codeOf 4 = .ok (.iload_n 1, 1) := by decide +kernel
theorem dX4_codeOf_5 : decode cX4_codeOf 5 = .ok (.bipush 10, 2) := by decide +kernel
theorem dX4_codeOf_7 : decode cX4_codeOf 7 = .ok (.imul, 1) := by decide +kernel
theorem dX4_codeOf_8 : decode cX4_codeOf 8 = .ok (.iadd, 1) := by decide +kernel
theorem dX4_codeOf_9 : decode cX4_codeOf 9 = .ok (.iload_n 2, 1) := by decide +kernel
theorem dX4_codeOf_10 : decode cX4_codeOf 10 = .ok (.iadd, 1) := by decide +kernel
theorem dX4_codeOf_11 : decode cX4_codeOf 11 = .ok (.ireturn, 1) := by decide +kernel
theorem dX4_characterIn_0 : decode cX4_characterIn 0 = .ok (.iload_n 0, 1) := by decide +kernel
theorem dX4_characterIn_1 : decode cX4_characterIn 1 = .ok (.bipush 100, 2) := by decide +kernel
theorem dX4_characterIn_3 : decode cX4_characterIn 3 = .ok (.idiv, 1) := by decide +kernel
theorem dX4_characterIn_4 : decode cX4_characterIn 4 = .ok (.ireturn, 1) := by decide +kernel
theorem dX4_kindIn_0 : decode cX4_kindIn 0 = .ok (.iload_n 0, 1) := by decide +kernel
theorem dX4_kindIn_1 : decode cX4_kindIn 1 = .ok (.bipush 10, 2) := by decide +kernel
theorem dX4_kindIn_3 : decode cX4_kindIn 3 = .ok (.idiv, 1) := by decide +kernel
theorem dX4_kindIn_4 : decode cX4_kindIn 4 = .ok (.bipush 10, 2) := by decide +kernel
theorem dX4_kindIn_6 : decode cX4_kindIn 6 = .ok (.irem, 1) := by decide +kernel
theorem dX4_kindIn_7 : decode cX4_kindIn 7 = .ok (.ireturn, 1) := by decide +kernel
theorem dX4_propIn_0 : decode cX4_propIn 0 = .ok (.iload_n 0, 1) := by decide +kernel
theorem dX4_propIn_1 : decode cX4_propIn 1 = .ok (.bipush 10, 2) := by decide +kernel
theorem dX4_propIn_3 : decode cX4_propIn 3 = .ok (.irem, 1) := by decide +kernel
theorem dX4_propIn_4 : decode cX4_propIn 4 = .ok (.ireturn, 1) := by decide +kernel
theorem dX4_cell_0 : decode cX4_cell 0 = .ok (.iload_n 1, 1) := by decide +kernel
theorem dX4_cell_1 : decode cX4_cell 1 = .ok (.ifCond .lt 15, 3) := by decide +kernel
theorem dX4_cell_4 : decode cX4_cell 4 = .ok (.iload_n 1, 1) := by decide +kernel
theorem dX4_cell_5 : decode cX4_cell 5 = .ok (.aload_n 0, 1) := by decide +kernel
theorem dX4_cell_6 : decode cX4_cell 6 = .ok (.arraylength, 1) := by decide +kernel
theorem dX4_cell_7 : decode cX4_cell 7 = .ok (.if_icmp .ge 9, 3) := by decide +kernel
theorem dX4_cell_10 : decode cX4_cell 10 = .ok (.aload_n 0, 1) := by decide +kernel
theorem dX4_cell_11 : decode cX4_cell 11 = .ok (.iload_n 1, 1) := by decide +kernel
theorem dX4_cell_12 : decode cX4_cell 12 = .ok (.iaload, 1) := by decide +kernel
theorem dX4_cell_13 : decode cX4_cell 13 = .ok (.goto 4, 3) := by decide +kernel
theorem dX4_cell_16 : decode cX4_cell 16 = .ok (.iconst (-1), 1) := by decide +kernel
theorem dX4_cell_17 : decode cX4_cell 17 = .ok (.ireturn, 1) := by decide +kernel
theorem dX4_setCell_0 : decode cX4_setCell 0 = .ok (.iload_n 1, 1) := by decide +kernel
theorem dX4_setCell_1 : decode cX4_setCell 1 = .ok (.ifCond .lt 13, 3) := by decide +kernel
theorem dX4_setCell_4 : decode cX4_setCell 4 = .ok (.iload_n 1, 1) := by decide +kernel
theorem dX4_setCell_5 : decode cX4_setCell 5 = .ok (.aload_n 0, 1) := by decide +kernel
theorem dX4_setCell_6 : decode cX4_setCell 6 = .ok (.arraylength, 1) := by decide +kernel
theorem dX4_setCell_7 : decode cX4_setCell 7 = .ok (.if_icmp .ge 7, 3) := by decide +kernel
theorem dX4_setCell_10 : decode cX4_setCell 10 = .ok (.aload_n 0, 1) := by decide +kernel
theorem dX4_setCell_11 : decode cX4_setCell 11 = .ok (.iload_n 1, 1) := by decide +kernel
theorem dX4_setCell_12 : decode cX4_setCell 12 = .ok (.iload_n 2, 1) := by decide +kernel
theorem dX4_setCell_13 : decode cX4_setCell 13 = .ok (.iastore, 1) := by decide +kernel
theorem dX4_setCell_14 : decode cX4_setCell 14 = .ok (.return_, 1) := by decide +kernel
theorem dX4_copyRow_0 : decode cX4_copyRow 0 = .ok (.iconst 0, 1) := by decide +kernel
theorem dX4_copyRow_1 : decode cX4_copyRow 1 = .ok (.istore_n 2, 1) := by decide +kernel
theorem dX4_copyRow_2 : decode cX4_copyRow 2 = .ok (.iload_n 2, 1) := by decide +kernel
theorem dX4_copyRow_3 : decode cX4_copyRow 3 = .ok (.aload_n 0, 1) := by decide +kernel
theorem dX4_copyRow_4 : decode cX4_copyRow 4 = .ok (.arraylength, 1) := by decide +kernel
theorem dX4_copyRow_5 : decode cX4_copyRow 5 = .ok (.if_icmp .ge 21, 3) := by decide +kernel
theorem dX4_copyRow_8 : decode cX4_copyRow 8 = .ok (.iload_n 2, 1) := by decide +kernel
theorem dX4_copyRow_9 : decode cX4_copyRow 9 = .ok (.aload_n 1, 1) := by decide +kernel
theorem dX4_copyRow_10 : decode cX4_copyRow 10 = .ok (.arraylength, 1) := by decide +kernel
theorem dX4_copyRow_11 : decode cX4_copyRow 11 = .ok (.if_icmp .ge 15, 3) := by decide +kernel
theorem dX4_copyRow_14 : decode cX4_copyRow 14 = .ok (.aload_n 1, 1) := by decide +kernel
theorem dX4_copyRow_15 : decode cX4_copyRow 15 = .ok (.iload_n 2, 1) := by decide +kernel
theorem dX4_copyRow_16 : decode cX4_copyRow 16 = .ok (.aload_n 0, 1) := by decide +kernel
theorem dX4_copyRow_17 : decode cX4_copyRow 17 = .ok (.iload_n 2, 1) := by decide +kernel
theorem dX4_copyRow_18 : decode cX4_copyRow 18 = .ok (.iaload, 1) := by decide +kernel
theorem dX4_copyRow_19 : decode cX4_copyRow 19 = .ok (.iastore, 1) := by decide +kernel
theorem dX4_copyRow_20 : decode cX4_copyRow 20 = .ok (.iinc 2 1, 3) := by decide +kernel
theorem dX4_copyRow_23 : decode cX4_copyRow 23 = .ok (.goto (-21), 3) := by decide +kernel
theorem dX4_copyRow_26 : decode cX4_copyRow 26 = .ok (.return_, 1) := by decide +kernel
theorem dX4_fillRow_0 : decode cX4_fillRow 0 = .ok (.iconst 0, 1) := by decide +kernel
theorem dX4_fillRow_1 : decode cX4_fillRow 1 = .ok (.istore_n 2, 1) := by decide +kernel
theorem dX4_fillRow_2 : decode cX4_fillRow 2 = .ok (.iload_n 2, 1) := by decide +kernel
theorem dX4_fillRow_3 : decode cX4_fillRow 3 = .ok (.aload_n 0, 1) := by decide +kernel
theorem dX4_fillRow_4 : decode cX4_fillRow 4 = .ok (.arraylength, 1) := by decide +kernel
theorem dX4_fillRow_5 : decode cX4_fillRow 5 = .ok (.if_icmp .ge 13, 3) := by decide +kernel
theorem dX4_fillRow_8 : decode cX4_fillRow 8 = .ok (.aload_n 0, 1) := by decide +kernel
theorem dX4_fillRow_9 : decode cX4_fillRow 9 = .ok (.iload_n 2, 1) := by decide +kernel
theorem dX4_fillRow_10 : decode cX4_fillRow 10 = .ok (.iload_n 1, 1) := by decide +kernel
theorem dX4_fillRow_11 : decode cX4_fillRow 11 = .ok (.iastore, 1) := by decide +kernel
theorem dX4_fillRow_12 : decode cX4_fillRow 12 = .ok (.iinc 2 1, 3) := by decide +kernel
theorem dX4_fillRow_15 : decode cX4_fillRow 15 = .ok (.goto (-13), 3) := by decide +kernel
theorem dX4_fillRow_18 : decode cX4_fillRow 18 = .ok (.return_, 1) := by decide +kernel
