set_option maxRecDepth 20000 in
theorem ggX0_init_X3_init : GoodIn wsX0_init wsX3_init := goodIn_r _ [9, 10, 2, 3, 11, 12, 13, 14, 15, 16, 17, 18, 19, 20, 21, 25, 26, 27, 28, 29, 30] (by decide +kernel) (by decide +kernel)
set_option maxRecDepth 20000 in
theorem gX0_init_X3_init_n17 : GoodIn wsX0_init (wsX3_init) := ggX0_init_X3_init
theorem dX0_init_0 : decode cX0_init 0 = .ok (.aload_n 0, 1) := by decide +kernel
theorem dX0_init_1 : decode cX0_init 1 = .ok (.invokespecial 3, 3) := by decide +kernel
theorem dX0_init_4 : decode cX0_init 4 = .ok (.aload_n 0, 1) := by decide +kernel
theorem dX0_init_5 : decode cX0_init 5 = .ok (.bipush 7, 2) := by decide +kernel
theorem dX0_init_7 : decode cX0_init 7 = .ok (.anewarray 11, 3) := by decide +kernel
theorem dX0_init_10 : decode cX0_init 10 = .ok (.putfield 13, 3) := by decide +kernel
theorem dX0_init_13 : decode cX0_init 13 = .ok (.iconst 0, 1) := by decide +kernel
theorem dX0_init_14 : decode cX0_init 14 = .ok (.istore_n 1, 1) := by decide +kernel
theorem dX0_init_15 : decode cX0_init 15 = .ok (.iload_n 1, 1) := by decide +kernel
theorem dX0_init_16 : decode cX0_init 16 = .ok (.bipush 7, 2) := by decide +kernel
theorem dX0_init_18 : decode cX0_init 18 = .ok (.if_icmp .ge 22, 3) := by decide +kernel
theorem dX0_init_21 : decode cX0_init 21 = .ok (.aload_n 0, 1) := by decide +kernel
theorem dX0_init_22 : decode cX0_init 22 = .ok (.getfield 13, 3) := by decide +kernel
theorem dX0_init_25 : decode cX0_init 25 = .ok (.iload_n 1, 1) := by decide +kernel
theorem dX0_init_26 : decode cX0_init 26 = .ok (.new 11, 3) := by decide +kernel
theorem dX0_init_29 : decode cX0_init 29 = .ok (.dup, 1) := by decide +kernel
theorem dX0_init_30 : decode cX0_init 30 = .ok (.invokespecial 17, 3) := by decide +kernel
theorem dX0_init_33 : decode cX0_init 33 = .ok (.aastore, 1) := by decide +kernel
theorem dX0_init_34 : decode cX0_init 34 = .ok (.iinc 1 1, 3) := by decide +kernel
theorem dX0_init_37 : decode cX0_init 37 = .ok (.goto (-22), 3) := by decide +kernel
theorem dX0_init_40 : decode cX0_init 40 = .ok (.return_, 1) := by decide +kernel
set_option maxRecDepth 20000 in
theorem ggX0_note_X3_copyFrom : GoodIn wsX0_note wsX3_copyFrom := goodIn_r _ [8, 9, 10, 11, 12, 13, 14, 15, 16, 17, 18, 22, 23, 24, 25, 26, 27] (by decide +kernel) (by decide +kernel)
set_option maxRecDepth 20000 in
theorem gX0_note_X3_copyFrom : GoodIn wsX0_note (wsV RX0 25 RX3 yX3_copyFrom wsX3_copyFrom) := goodIn_app (goodIn_of _ (by decide +kernel)) ggX0_note_X3_copyFrom
theorem dX0_note_0 : decode cX0_note 0 = .ok (.aload_n 0, 1) := by decide +kernel
theorem dX0_note_1 : decode cX0_note 1 = .ok (.getfield 13, 3) := by decide +kernel
theorem dX0_note_4 : decode cX0_note 4 = .ok (.aload_n 0, 1) := by decide +kernel
theorem dX0_note_5 : decode cX0_note 5 = .ok (.getfield 18, 3) := by decide +kernel
theorem dX0_note_8 : decode cX0_note 8 = .ok (.aload_n 0, 1) := by decide +kernel
theorem dX0_note_9 : decode cX0_note 9 = .ok (.getfield 22, 3) := by decide +kernel
theorem dX0_note_12 : decode cX0_note 12 = .ok (.iadd, 1) := by decide +kernel
theorem dX0_note_13 : decode cX0_note 13 = .ok (.bipush 7, 2) := by decide +kernel
theorem dX0_note_15 : decode cX0_note 15 = .ok (.irem, 1) := by decide +kernel
theorem dX0_note_16 : decode cX0_note 16 = .ok (.aaload, 1) := by decide +kernel
theorem dX0_note_17 : decode cX0_note 17 = .ok (.aload_n 1, 1) := by decide +kernel
theorem dX0_note_18 : decode cX0_note 18 = .ok (.invokevirtual 25, 3) := by decide +kernel
theorem dX0_note_21 : decode cX0_note 21 = .ok (.return_, 1) := by decide +kernel
theorem dX0_keep_0 : decode cX0_keep 0 = .ok (.aload_n 0, 1) := by decide +kernel
theorem dX0_keep_1 : decode cX0_keep 1 = .ok (.getfield 22, 3) := by decide +kernel
theorem dX0_keep_4 : decode cX0_keep 4 = .ok (.bipush 6, 2) := by decide +kernel
theorem dX0_keep_6 : decode cX0_keep 6 = .ok (.if_icmp .ge 16, 3) := by decide +kernel
theorem dX0_keep_9 : decode cX0_keep 9 = .ok (.aload_n 0, 1) := by decide +kernel
theorem dX0_keep_10 : decode cX0_keep 10 = .ok (.dup, 1) := by decide +kernel
theorem dX0_keep_11 : decode cX0_keep 11 = .ok (.getfield 22, 3) := by decide +kernel
theorem dX0_keep_14 : decode cX0_keep 14 = .ok (.iconst 1, 1) := by decide +kernel
theorem dX0_keep_15 : decode cX0_keep 15 = .ok (.iadd, 1) := by decide +kernel
theorem dX0_keep_16 : decode cX0_keep 16 = .ok (.putfield 22, 3) := by decide +kernel
theorem dX0_keep_19 : decode cX0_keep 19 = .ok (.goto 16, 3) := by decide +kernel
theorem dX0_keep_22 : decode cX0_keep 22 = .ok (.aload_n 0, 1) := by decide +kernel
theorem dX0_keep_23 : decode cX0_keep 23 = .ok (.aload_n 0, 1) := by decide +kernel
theorem dX0_keep_24 : decode cX0_keep 24 = .ok (.getfield 18, 3) := by decide +kernel
theorem dX0_keep_27 : decode cX0_keep 27 = .ok (.iconst 1, 1) := by decide +kernel
theorem dX0_keep_28 : decode cX0_keep 28 = .ok (.iadd, 1) := by decide +kernel
theorem dX0_keep_29 : decode cX0_keep 29 = .ok (.bipush 7, 2) := by decide +kernel
theorem dX0_keep_31 : decode cX0_keep 31 = .ok (.irem, 1) := by decide +kernel
theorem dX0_keep_32 : decode cX0_keep 32 = .ok (.putfield 18, 3) := by decide +kernel
theorem dX0_keep_35 : decode cX0_keep 35 = .ok (.return_, 1) := by decide +kernel
set_option maxRecDepth 20000 in
theorem ggX0_takeBack_X3_copyFrom : GoodIn wsX0_takeBack wsX3_copyFrom := goodIn_r _ [8, 9, 10, 11, 12, 13, 14, 15, 16, 17, 18, 22, 23, 24, 25, 26, 27] (by decide +kernel) (by decide +kernel)
set_option maxRecDepth 20000 in
theorem gX0_takeBack_X3_copyFrom : GoodIn wsX0_takeBack (wsV RX0 25 RX3 yX3_copyFrom wsX3_copyFrom) := goodIn_app (goodIn_of _ (by decide +kernel)) ggX0_takeBack_X3_copyFrom
theorem dX0_takeBack_0 : decode cX0_takeBack 0 = .ok (.aload_n 0, 1) := by decide +kernel
theorem dX0_takeBack_1 : decode cX0_takeBack 1 = .ok (.getfield 22, 3) := by decide +kernel
theorem dX0_takeBack_4 : decode cX0_takeBack 4 = .ok (.ifCond .le 34, 3) := by decide +kernel
theorem dX0_takeBack_7 : decode cX0_takeBack 7 = .ok (.aload_n 0, 1) := by decide +kernel
theorem dX0_takeBack_8 : decode cX0_takeBack 8 = .ok (.dup, 1) := by decide +kernel
theorem dX0_takeBack_9 : decode cX0_takeBack 9 = .ok (.getfield 22, 3) := by decide +kernel
theorem dX0_takeBack_12 : decode cX0_takeBack 12 = .ok (.iconst 1, 1) := by decide +kernel
theorem dX0_takeBack_13 : decode cX0_takeBack 13 = .ok (.isub, 1) := by decide +kernel
theorem dX0_takeBack_14 : decode cX0_takeBack 14 = .ok (.putfield 22, 3) := by decide +kernel
theorem dX0_takeBack_17 : decode cX0_takeBack 17 = .ok (.aload_n 1, 1) := by decide +kernel
theorem dX0_takeBack_18 : decode cX0_takeBack 18 = .ok (.aload_n 0, 1) := by decide +kernel
theorem dX0_takeBack_19 : decode cX0_takeBack 19 = .ok (.getfield 13, 3) := by decide +kernel
theorem dX0_takeBack_22 : decode cX0_takeBack 22 = .ok (.aload_n 0, 1) := by decide +kernel
theorem dX0_takeBack_23 : decode cX0_takeBack 23 = .ok (.getfield 18, 3) := by decide +kernel
theorem dX0_takeBack_26 : decode cX0_takeBack 26 = .ok (.aload_n 0, 1) := by decide +kernel
theorem dX0_takeBack_27 : decode cX0_takeBack 27 = .ok (.getfield 22, 3) := by decide +kernel
theorem dX0_takeBack_30 : decode cX0_takeBack 30 = .ok (.iadd, 1) := by decide +kernel
theorem dX0_takeBack_31 : decode cX0_takeBack 31 = .ok (.bipush 7, 2) := by decide +kernel
theorem dX0_takeBack_33 : decode cX0_takeBack 33 = .ok (.irem, 1) := by decide +kernel
theorem dX0_takeBack_34 : decode cX0_takeBack 34 = .ok (.aaload, 1) := by decide +kernel
theorem dX0_takeBack_35 : decode cX0_takeBack 35 = .ok (.invokevirtual 25, 3) := by decide +kernel
theorem dX0_takeBack_38 : decode cX0_takeBack 38 = .ok (.return_, 1) := by decide +kernel
theorem dX1_init_0 : decode cX1_init 0 = .ok (.aload_n 0, 1) := by decide +kernel
theorem dX1_init_1 : decode cX1_init 1 = .ok (.invokespecial 3, 3) := by decide +kernel
theorem dX1_init_4 : decode cX1_init 4 = .ok (.aload_n 0, 1) := by decide +kernel
theorem dX1_init_5 : decode cX1_init 5 = .ok (.bipush 80, 2) := by decide +kernel
theorem dX1_init_7 : decode cX1_init 7 = .ok (.newarray .char, 2) := by decide +kernel
theorem dX1_init_9 : decode cX1_init 9 = .ok (.putfield 9, 3) := by decide +kernel
theorem dX1_init_12 : decode cX1_init 12 = .ok (.aload_n 0, 1) := by decide +kernel
theorem dX1_init_13 : decode cX1_init 13 = .ok (.bipush 6, 2) := by decide +kernel
theorem dX1_init_15 : decode cX1_init 15 = .ok (.newarray .int, 2) := by decide +kernel
theorem dX1_init_17 : decode cX1_init 17 = .ok (.putfield 15, 3) := by decide +kernel
theorem dX1_init_20 : decode cX1_init 20 = .ok (.return_, 1) := by decide +kernel
set_option maxRecDepth 20000 in
theorem ggX1_append_X4_within : GoodIn wsX1_append wsX4_within := goodIn_r _ [6] (by decide +kernel) (by decide +kernel)
set_option maxRecDepth 20000 in
theorem gX1_append_X4_within_n21 : GoodIn wsX1_append (wsX4_within) := ggX1_append_X4_within
theorem dX1_append_0 : decode cX1_append 0 = .ok (.iconst 0, 1) := by decide +kernel
theorem dX1_append_1 : decode cX1_append 1 = .ok (.istore_n 3, 1) := by decide +kernel
theorem dX1_append_2 : decode cX1_append 2 = .ok (.lload_n 1, 1) := by decide +kernel
theorem dX1_append_3 : decode cX1_append 3 = .ok (.lstore 4, 2) := by decide +kernel
theorem dX1_append_5 : decode cX1_append 5 = .ok (.lload 4, 2) := by decide +kernel
theorem dX1_append_7 : decode cX1_append 7 = .ok (.lconst 0, 1) := by decide +kernel
theorem dX1_append_8 : decode cX1_append 8 = .ok (.lcmp, 1) := by decide +kernel
theorem dX1_append_9 : decode cX1_append 9 = .ok (.ifCond .eq 42, 3) := by decide +kernel
theorem dX1_append_12 : decode cX1_append 12 = .ok (.iload_n 3, 1) := by decide +kernel
theorem dX1_append_13 : decode cX1_append 13 = .ok (.bipush 8, 2) := by decide +kernel
theorem dX1_append_15 : decode cX1_append 15 = .ok (.if_icmp .ge 36, 3) := by decide +kernel
theorem dX1_append_18 : decode cX1_append 18 = .ok (.lload 4, 2) := by decide +kernel
theorem dX1_append_20 : decode cX1_append 20 = .ok (.ldc2_w 19, 3) := by decide +kernel
theorem dX1_append_23 : decode cX1_append 23 = .ok (.land, 1) := by decide +kernel
theorem dX1_append_24 : decode cX1_append 24 = .ok (.l2i, 1) := by decide +kernel
theorem dX1_append_25 : decode cX1_append 25 = .ok (.bipush 33, 2) := by decide +kernel
theorem dX1_append_27 : decode cX1_append 27 = .ok (.bipush 126, 2) := by decide +kernel
theorem dX1_append_29 : decode cX1_append 29 = .ok (.invokestatic 21, 3) := by decide +kernel
theorem dX1_append_32 : decode cX1_append 32 = .ok (.ifCond .ne 6, 3) := by decide +kernel
theorem dX1_append_35 : decode cX1_append 35 = .ok (.bipush (-2), 2) := by decide +kernel
theorem dX1_append_37 : decode cX1_append 37 = .ok (.ireturn, 1) := by decide +kernel
theorem dX1_append_38 : decode cX1_append 38 = .ok (.iinc 3 1, 3) := by decide +kernel
theorem dX1_append_41 : decode cX1_append 41 = .ok (.lload 4, 2) := by decide +kernel
theorem dX1_append_43 : decode cX1_append 43 = .ok (.bipush 8, 2) := by decide +kernel
theorem dX1_append_45 : decode cX1_append 45 = .ok (.lushr, 1) := by decide +kernel
theorem dX1_append_46 : decode cX1_append 46 = .ok (.lstore 4, 2) := by decide +kernel
theorem dX1_append_48 : decode cX1_append 48 = .ok (.goto (-43), 3) := by decide +kernel
theorem dX1_append_51 : decode cX1_append 51 = .ok (.iload_n 3, 1) := by decide +kernel
theorem dX1_append_52 : decode cX1_append 52 = .ok (.ifCond .ne 6, 3) := by decide +kernel
theorem dX1_append_55 : decode cX1_append 55 = .ok (.bipush (-2), 2) := by decide +kernel
theorem dX1_append_57 : decode cX1_append 57 = .ok (.ireturn, 1) := by decide +kernel
theorem dX1_append_58 : decode cX1_append 58 = .ok (.aload_n 0, 1) := by decide +kernel
theorem dX1_append_59 : decode cX1_append 59 = .ok (.getfield 25, 3) := by decide +kernel
theorem dX1_append_62 : decode cX1_append 62 = .ok (.iload_n 3, 1) := by decide +kernel
theorem dX1_append_63 : decode cX1_append 63 = .ok (.iadd, 1) := by decide +kernel
theorem dX1_append_64 : decode cX1_append 64 = .ok (.bipush 80, 2) := by decide +kernel
theorem dX1_append_66 : decode cX1_append 66 = .ok (.if_icmp .le 6, 3) := by decide +kernel
theorem dX1_append_69 : decode cX1_append 69 = .ok (.bipush (-4), 2) := by decide +kernel
theorem dX1_append_71 : decode cX1_append 71 = .ok (.ireturn, 1) := by decide +kernel
theorem dX1_append_72 : decode cX1_append 72 = .ok (.iconst 0, 1) := by decide +kernel
theorem dX1_append_73 : decode cX1_append 73 = .ok (.istore 4, 2) := by decide +kernel
theorem dX1_append_75 : decode cX1_append 75 = .ok (.iload 4, 2) := by decide +kernel
theorem dX1_append_77 : decode cX1_append 77 = .ok (.iload_n 3, 1) := by decide +kernel
theorem dX1_append_78 : decode cX1_append 78 = .ok (.if_icmp .ge 38, 3) := by decide +kernel
theorem dX1_append_81 : decode cX1_append 81 = .ok (.aload_n 0, 1) := by decide +kernel
theorem dX1_append_82 : decode cX1_append 82 = .ok (.getfield 9, 3) := by decide +kernel
theorem dX1_append_85 : decode cX1_append 85 = .ok (.aload_n 0, 1) := by decide +kernel
theorem dX1_append_86 : decode cX1_append 86 = .ok (.getfield 25, 3) := by decide +kernel
theorem dX1_append_89 : decode cX1_append 89 = .ok (.iload_n 3, 1) := by decide +kernel
theorem dX1_append_90 : decode cX1_append 90 = .ok (.iadd, 1) := by decide +kernel
theorem dX1_append_91 : decode cX1_append 91 = .ok (.iconst 1, 1) := by decide +kernel
theorem dX1_append_92 : decode cX1_append 92 = .ok (.isub, 1) := by decide +kernel
theorem dX1_append_93 : decode cX1_append 93 = .ok (.iload 4, 2) := by decide +kernel
theorem dX1_append_95 : decode cX1_append 95 = .ok (.isub, 1) := by decide +kernel
theorem dX1_append_96 : decode cX1_append 96 = .ok (.lload_n 1, 1) := by decide +kernel
theorem dX1_append_97 : decode cX1_append 97 = .ok (.bipush 8, 2) := by decide +kernel
theorem dX1_append_99 : decode cX1_append 99 = .ok (.iload 4, 2) := by decide +kernel
theorem dX1_append_101 : decode cX1_append 101 = .ok (.imul, 1) := by decide +kernel
theorem dX1_append_102 : decode cX1_append 102 = .ok (.lushr, 1) := by decide +kernel
theorem dX1_append_103 : decode cX1_append 103 = .ok (.ldc2_w 19, 3) := by decide +kernel
theorem dX1_append_106 : decode cX1_append 106 = .ok (.land, 1) := by decide +kernel
theorem dX1_append_107 : decode cX1_append 107 = .ok (.l2i, 1) := by decide +kernel
theorem dX1_append_108 : decode cX1_append 108 = .ok (.i2c, 1) := by decide +kernel
theorem dX1_append_109 : decode cX1_append 109 = .ok (.castore, 1) := by decide +kernel
theorem dX1_append_110 : decode cX1_append 110 = .ok (.iinc 4 1, 3) := by decide +kernel
theorem dX1_append_113 : decode cX1_append 113 = .ok (.goto (-38), 3) := by decide +kernel
theorem dX1_append_116 : decode cX1_append 116 = .ok (.aload_n 0, 1) := by decide +kernel
theorem dX1_append_117 : decode cX1_append 117 = .ok (.dup, 1) := by decide +kernel
theorem dX1_append_118 : decode cX1_append 118 = .ok (.getfield 25, 3) := by decide +kernel
theorem dX1_append_121 : decode cX1_append 121 = .ok (.iload_n 3, 1) := by decide +kernel
theorem dX1_append_122 : decode cX1_append 122 = .ok (.iadd, 1) := by decide +kernel
theorem dX1_append_123 : decode cX1_append 123 = .ok (.putfield 25, 3) := by decide +kernel
theorem dX1_append_126 : decode cX1_append 126 = .ok (.aload_n 0, 1) := by decide +kernel
theorem dX1_append_127 : decode cX1_append 127 = .ok (.getfield 25, 3) := by decide +kernel
theorem dX1_append_130 : decode cX1_append 130 = .ok (.ireturn, 1) := by decide +kernel
theorem dX1_start_0 : decode cX1_start 0 = .ok (.aload_n 0, 1) := by decide +kernel
theorem dX1_start_1 : decode cX1_start 1 = .ok (.iconst 0, 1) := by decide +kernel
theorem dX1_start_2 : decode cX1_start 2 = .ok (.putfield 29, 3) := by decide +kernel
theorem dX1_start_5 : decode cX1_start 5 = .ok (.return_, 1) := by decide +kernel
theorem dX1_hasMore_0 : decode cX1_hasMore 0 = .ok (.aload_n 0, 1) := by decide +kernel
theorem dX1_hasMore_1 : decode cX1_hasMore 1 = .ok (.getfield 29, 3) := by decide +kernel
theorem dX1_hasMore_4 : decode cX1_hasMore 4 = .ok (.aload_n 0, 1) := by decide +kernel
theorem dX1_hasMore_5 : decode cX1_hasMore 5 = .ok (.getfield 25, 3) := by decide +kernel
theorem dX1_hasMore_8 : decode cX1_hasMore 8 = .ok (.if_icmp .ge 7, 3) := by decide +kernel
theorem dX1_hasMore_11 : decode cX1_hasMore 11 = .ok (.iconst 1, 1) := by decide +kernel
theorem dX1_hasMore_12 : decode cX1_hasMore 12 = .ok (.goto 4, 3) := by decide +kernel
theorem dX1_hasMore_15 : decode cX1_hasMore 15 = .ok (.iconst 0, 1) := by decide +kernel
theorem dX1_hasMore_16 : decode cX1_hasMore 16 = .ok (.ireturn, 1) := by decide +kernel
set_option maxRecDepth 20000 in
theorem ggX1_firstFault_X1_start : GoodIn wsX1_firstFault wsX1_start := goodIn_r _ [6, 1, 111, 112, 113, 114, 115, 116] (by decide +kernel) (by decide +kernel)
set_option maxRecDepth 20000 in
theorem gX1_firstFault_X1_start : GoodIn wsX1_firstFault (wsV RX1 32 RX1 yX1_start wsX1_start) := goodIn_app (goodIn_of _ (by decide +kernel)) ggX1_firstFault_X1_start
set_option maxRecDepth 20000 in
theorem ggX1_firstFault_X1_readOrder : GoodIn wsX1_firstFault wsX1_readOrder := goodIn_r _ [10, 1, 11, 12, 13, 14, 15, 5, 16, 17, 18, 19, 20, 21, 22, 23, 24, 25, 26, 27, 28, 29, 30, 31, 32, 33, 34, 35, 36, 37, 38, 39, 40, 41, 42, 43, 44, 45, 46, 47, 48, 49, 50, 51, 52, 53, 54, 55, 56, 57, 58, 59, 60, 61, 62, 63, 64, 65, 66, 67, 68, 69, 70, 71, 72, 73, 74, 75, 76, 77, 78, 79, 80, 81, 82, 83, 84, 85, 86, 87, 88, 89, 90, 91, 92, 93, 94, 95, 96, 97, 98, 99, 100, 101, 102, 103, 104, 105, 106, 111, 112, 113, 114, 115, 116] (by decide +kernel) (by decide +kernel)
set_option maxRecDepth 20000 in
theorem gX1_firstFault_X1_readOrder : GoodIn wsX1_firstFault (wsV RX1 35 RX1 yX1_readOrder wsX1_readOrder) := goodIn_app (goodIn_of _ (by decide +kernel)) ggX1_firstFault_X1_readOrder
set_option maxRecDepth 20000 in
theorem ggX1_firstFault_X1_hasMore : GoodIn wsX1_firstFault wsX1_hasMore := goodIn_r _ [110, 1, 21, 111, 112, 113, 114, 115, 116] (by decide +kernel) (by decide +kernel)
set_option maxRecDepth 20000 in
theorem gX1_firstFault_X1_hasMore : GoodIn wsX1_firstFault (wsV RX1 39 RX1 yX1_hasMore wsX1_hasMore) := goodIn_app (goodIn_of _ (by decide +kernel)) ggX1_firstFault_X1_hasMore
theorem dX1_firstFault_0 : decode cX1_firstFault 0 = .ok (.aload_n 0, 1) := by decide +kernel
theorem dX1_firstFault_1 : decode cX1_firstFault 1 = .ok (.invokevirtual 32, 3) := by decide +kernel
theorem dX1_firstFault_4 : decode cX1_firstFault 4 = .ok (.aload_n 0, 1) := by decide +kernel
theorem dX1_firstFault_5 : decode cX1_firstFault 5 = .ok (.invokevirtual 35, 3) := by decide +kernel
theorem dX1_firstFault_8 : decode cX1_firstFault 8 = .ok (.istore_n 1, 1) := by decide +kernel
theorem dX1_firstFault_9 : decode cX1_firstFault 9 = .ok (.iconst 1, 1) := by decide +kernel
theorem dX1_firstFault_10 : decode cX1_firstFault 10 = .ok (.istore_n 2, 1) := by decide +kernel
theorem dX1_firstFault_11 : decode cX1_firstFault 11 = .ok (.iload_n 1, 1) := by decide +kernel
theorem dX1_firstFault_12 : decode cX1_firstFault 12 = .ok (.ifCond .eq 27, 3) := by decide +kernel
theorem dX1_firstFault_15 : decode cX1_firstFault 15 = .ok (.aload_n 0, 1) := by decide +kernel
theorem dX1_firstFault_16 : decode cX1_firstFault 16 = .ok (.invokevirtual 39, 3) := by decide +kernel
theorem dX1_firstFault_19 : decode cX1_firstFault 19 = .ok (.ifCond .eq 20, 3) := by decide +kernel
theorem dX1_firstFault_22 : decode cX1_firstFault 22 = .ok (.iload_n 2, 1) := by decide +kernel
theorem dX1_firstFault_23 : decode cX1_firstFault 23 = .ok (.bipush 80, 2) := by decide +kernel
theorem dX1_firstFault_25 : decode cX1_firstFault 25 = .ok (.if_icmp .ge 14, 3) := by decide +kernel
theorem dX1_firstFault_28 : decode cX1_firstFault 28 = .ok (.aload_n 0, 1) := by decide +kernel
theorem dX1_firstFault_29 : decode cX1_firstFault 29 = .ok (.invokevirtual 35, 3) := by decide +kernel
theorem dX1_firstFault_32 : decode cX1_firstFault 32 = .ok (.istore_n 1, 1) := by decide +kernel
theorem dX1_firstFault_33 : decode cX1_firstFault 33 = .ok (.iinc 2 1, 3) := by decide +kernel
theorem dX1_firstFault_36 : decode cX1_firstFault 36 = .ok (.goto (-25), 3) := by decide +kernel
theorem dX1_firstFault_39 : decode cX1_firstFault 39 = .ok (.iload_n 1, 1) := by decide +kernel
theorem dX1_firstFault_40 : decode cX1_firstFault 40 = .ok (.ifCond .eq 8, 3) := by decide +kernel
theorem dX1_firstFault_43 : decode cX1_firstFault 43 = .ok (.bipush (-6), 2) := by decide +kernel
theorem dX1_firstFault_45 : decode cX1_firstFault 45 = .ok (.goto 7, 3) := by decide +kernel
theorem dX1_firstFault_48 : decode cX1_firstFault 48 = .ok (.aload_n 0, 1) := by decide +kernel
theorem dX1_firstFault_49 : decode cX1_firstFault 49 = .ok (.getfield 29, 3) := by decide +kernel
theorem dX1_firstFault_52 : decode cX1_firstFault 52 = .ok (.ireturn, 1) := by decide +kernel
set_option maxRecDepth 20000 in
theorem ggX1_readOrder_X1_readSign : GoodIn wsX1_readOrder wsX1_readSign := goodIn_r _ [8, 1, 9, 10, 11, 7, 12, 13, 14, 99, 100, 101, 102, 103, 104] (by decide +kernel) (by decide +kernel)
set_option maxRecDepth 20000 in
theorem gX1_readOrder_X1_readSign : GoodIn wsX1_readOrder (wsV RX1 42 RX1 yX1_readSign wsX1_readSign) := goodIn_app (goodIn_of _ (by decide +kernel)) ggX1_readOrder_X1_readSign
set_option maxRecDepth 20000 in
theorem ggX1_readOrder_X1_nextSign : GoodIn wsX1_readOrder wsX1_nextSign := goodIn_r _ [12, 1, 13, 14, 99, 100, 101, 102, 103, 104] (by decide +kernel) (by decide +kernel)
set_option maxRecDepth 20000 in
theorem gX1_readOrder_X1_nextSign : GoodIn wsX1_readOrder (wsV RX1 46 RX1 yX1_nextSign wsX1_nextSign) := goodIn_app (goodIn_of _ (by decide +kernel)) ggX1_readOrder_X1_nextSign
set_option maxRecDepth 20000 in
theorem ggX1_readOrder_X1_formOf : GoodIn wsX1_readOrder wsX1_formOf := goodIn_r _ [17] (by decide +kernel) (by decide +kernel)
set_option maxRecDepth 20000 in
theorem gX1_readOrder_X1_formOf : GoodIn wsX1_readOrder (va_wsS RX1 54 yX1_formOf wsX1_formOf) := goodIn_app (goodIn_of _ (by decide +kernel)) ggX1_readOrder_X1_formOf
set_option maxRecDepth 20000 in
theorem ggX1_readOrder_J0_isEmpty_aae02 : GoodIn wsX1_readOrder wsJ0_isEmpty_aae02 := goodIn_r _ [22, 23] (by decide +kernel) (by decide +kernel)
set_option maxRecDepth 20000 in
theorem gX1_readOrder_J0_isEmpty_aae02 : GoodIn wsX1_readOrder (wsV RX1 58 RJ0 yJ0_isEmpty_aae02 wsJ0_isEmpty_aae02) := goodIn_app (goodIn_of _ (by decide +kernel)) ggX1_readOrder_J0_isEmpty_aae02
set_option maxRecDepth 20000 in
theorem ggX1_readOrder_J0_length_8abf5 : GoodIn wsX1_readOrder wsJ0_length_8abf5 := goodIn_r _ [27, 23, 28, 29, 30, 21, 31, 32, 33] (by decide +kernel) (by decide +kernel)
set_option maxRecDepth 20000 in
theorem gX1_readOrder_J0_length_8abf5 : GoodIn wsX1_readOrder (wsV RX1 66 RJ0 yJ0_length_8abf5 wsJ0_length_8abf5) := goodIn_app (goodIn_of _ (by decide +kernel)) ggX1_readOrder_J0_length_8abf5
set_option maxRecDepth 20000 in
theorem ggX1_readOrder_J0_charAt_5068e : GoodIn wsX1_readOrder wsJ0_charAt_5068e := goodIn_r _ [37, 23, 38, 39, 40, 21, 41, 32, 33, 42, 43, 44, 45, 46, 47, 48, 49, 50, 51, 52, 53, 54, 55, 56, 57, 58, 59, 60, 61, 62, 63, 64, 65, 66, 67, 68, 69, 70] (by decide +kernel) (by decide +kernel)
set_option maxRecDepth 20000 in
theorem gX1_readOrder_J0_charAt_5068e : GoodIn wsX1_readOrder (wsV RX1 69 RJ0 yJ0_charAt_5068e wsJ0_charAt_5068e) := goodIn_app (goodIn_of _ (by decide +kernel)) ggX1_readOrder_J0_charAt_5068e
set_option maxRecDepth 20000 in
theorem ggX1_readOrder_X1_readPiece : GoodIn wsX1_readOrder wsX1_readPiece := goodIn_r _ [74, 75, 76, 77, 7, 78, 1, 79, 80, 81, 82, 9, 10, 11, 12, 13, 14, 83, 84, 85, 86, 87, 88, 89, 3, 90, 91, 92, 93, 94, 95, 96, 97, 98, 4, 5, 6, 8, 99, 100, 101, 102, 103, 104] (by decide +kernel) (by decide +kernel)
set_option maxRecDepth 20000 in
theorem gX1_readOrder_X1_readPiece : GoodIn wsX1_readOrder (wsV RX1 73 RX1 yX1_readPiece wsX1_readPiece) := goodIn_app (goodIn_of _ (by decide +kernel)) ggX1_readOrder_X1_readPiece
theorem dX1_readOrder_0 : decode cX1_readOrder 0 = .ok (.aload_n 0, 1) := by decide +kernel
theorem dX1_readOrder_1 : decode cX1_readOrder 1 = .ok (.getfield 29, 3) := by decide +kernel
theorem dX1_readOrder_4 : decode cX1_readOrder 4 = .ok (.ifCond .le 14, 3) := by decide +kernel
theorem dX1_readOrder_7 : decode cX1_readOrder 7 = .ok (.aload_n 0, 1) := by decide +kernel
theorem dX1_readOrder_8 : decode cX1_readOrder 8 = .ok (.bipush 59, 2) := by decide +kernel
theorem dX1_readOrder_10 : decode cX1_readOrder 10 = .ok (.invokevirtual 42, 3) := by decide +kernel
theorem dX1_readOrder_13 : decode cX1_readOrder 13 = .ok (.ifCond .ne 5, 3) := by decide +kernel
theorem dX1_readOrder_16 : decode cX1_readOrder 16 = .ok (.iconst 0, 1) := by decide +kernel
theorem dX1_readOrder_17 : decode cX1_readOrder 17 = .ok (.ireturn, 1) := by decide +kernel
theorem dX1_readOrder_18 : decode cX1_readOrder 18 = .ok (.aload_n 0, 1) := by decide +kernel
theorem dX1_readOrder_19 : decode cX1_readOrder 19 = .ok (.aload_n 0, 1) := by decide +kernel
theorem dX1_readOrder_20 : decode cX1_readOrder 20 = .ok (.invokevirtual 46, 3) := by decide +kernel
theorem dX1_readOrder_23 : decode cX1_readOrder 23 = .ok (.putfield 50, 3) := by decide +kernel
theorem dX1_readOrder_26 : decode cX1_readOrder 26 = .ok (.aload_n 0, 1) := by decide +kernel
theorem dX1_readOrder_27 : decode cX1_readOrder 27 = .ok (.getfield 50, 3) := by decide +kernel
theorem dX1_readOrder_30 : decode cX1_readOrder 30 = .ok (.invokestatic 54, 3) := by decide +kernel
theorem dX1_readOrder_33 : decode cX1_readOrder 33 = .ok (.astore_n 1, 1) := by decide +kernel
theorem dX1_readOrder_34 : decode cX1_readOrder 34 = .ok (.aload_n 1, 1) := by decide +kernel
theorem dX1_readOrder_35 : decode cX1_readOrder 35 = .ok (.invokevirtual 58, 3) := by decide +kernel
theorem dX1_readOrder_38 : decode cX1_readOrder 38 = .ok (.ifCond .ne 18, 3) := by decide +kernel
theorem dX1_readOrder_41 : decode cX1_readOrder 41 = .ok (.aload_n 0, 1) := by decide +kernel
theorem dX1_readOrder_42 : decode cX1_readOrder 42 = .ok (.aload_n 0, 1) := by decide +kernel
theorem dX1_readOrder_43 : decode cX1_readOrder 43 = .ok (.getfield 50, 3) := by decide +kernel
theorem dX1_readOrder_46 : decode cX1_readOrder 46 = .ok (.invokevirtual 42, 3) := by decide +kernel
theorem dX1_readOrder_49 : decode cX1_readOrder 49 = .ok (.ifCond .eq 7, 3) := by decide +kernel
theorem dX1_readOrder_52 : decode cX1_readOrder 52 = .ok (.iconst 1, 1) := by decide +kernel
theorem dX1_readOrder_53 : decode cX1_readOrder 53 = .ok (.goto 4, 3) := by decide +kernel
theorem dX1_readOrder_56 : decode cX1_readOrder 56 = .ok (.iconst 0, 1) := by decide +kernel
theorem dX1_readOrder_57 : decode cX1_readOrder 57 = .ok (.istore_n 2, 1) := by decide +kernel
theorem dX1_readOrder_58 : decode cX1_readOrder 58 = .ok (.aload_n 0, 1) := by decide +kernel
theorem dX1_readOrder_59 : decode cX1_readOrder 59 = .ok (.iconst 0, 1) := by decide +kernel
theorem dX1_readOrder_60 : decode cX1_readOrder 60 = .ok (.putfield 63, 3) := by decide +kernel
theorem dX1_readOrder_63 : decode cX1_readOrder 63 = .ok (.iconst 0, 1) := by decide +kernel
theorem dX1_readOrder_64 : decode cX1_readOrder 64 = .ok (.istore_n 3, 1) := by decide +kernel
theorem dX1_readOrder_65 : decode cX1_readOrder 65 = .ok (.iload_n 2, 1) := by decide +kernel
theorem dX1_readOrder_66 : decode cX1_readOrder 66 = .ok (.ifCond .eq 27, 3) := by decide +kernel
theorem dX1_readOrder_69 : decode cX1_readOrder 69 = .ok (.iload_n 3, 1) := by decide +kernel
theorem dX1_readOrder_70 : decode cX1_readOrder 70 = .ok (.aload_n 1, 1) := by decide +kernel
theorem dX1_readOrder_71 : decode cX1_readOrder 71 = .ok (.invokevirtual 66, 3) := by decide +kernel
theorem dX1_readOrder_74 : decode cX1_readOrder 74 = .ok (.if_icmp .ge 19, 3) := by decide +kernel
theorem dX1_readOrder_77 : decode cX1_readOrder 77 = .ok (.aload_n 0, 1) := by decide +kernel
theorem dX1_readOrder_78 : decode cX1_readOrder 78 = .ok (.aload_n 1, 1) := by decide +kernel
theorem dX1_readOrder_79 : decode cX1_readOrder 79 = .ok (.iload_n 3, 1) := by decide +kernel
theorem dX1_readOrder_80 : decode cX1_readOrder 80 = .ok (.invokevirtual 69, 3) := by decide +kernel
theorem dX1_readOrder_83 : decode cX1_readOrder 83 = .ok (.invokevirtual 73, 3) := by decide +kernel
theorem dX1_readOrder_86 : decode cX1_readOrder 86 = .ok (.istore_n 2, 1) := by decide +kernel
theorem dX1_readOrder_87 : decode cX1_readOrder 87 = .ok (.iinc 3 1, 3) := by decide +kernel
theorem dX1_readOrder_90 : decode cX1_readOrder 90 = .ok (.goto (-25), 3) := by decide +kernel
theorem dX1_readOrder_93 : decode cX1_readOrder 93 = .ok (.iload_n 2, 1) := by decide +kernel
theorem dX1_readOrder_94 : decode cX1_readOrder 94 = .ok (.ireturn, 1) := by decide +kernel
theorem dX1_formOf_0 : decode cX1_formOf 0 = .ok (.iload_n 0, 1) := by decide +kernel
theorem dX1_formOf_1 : decode cX1_formOf 1 = .ok (.lookupswitch 55 #[(108, 49), (118, 43), (119, 46), (120, 52)], 43) := by decide +kernel
theorem dX1_formOf_44 : decode cX1_formOf 44 = .ok (.ldc 76, 2) := by decide +kernel
theorem dX1_formOf_46 : decode cX1_formOf 46 = .ok (.areturn, 1) := by decide +kernel
theorem dX1_formOf_47 : decode cX1_formOf 47 = .ok (.ldc 78, 2) := by decide +kernel
theorem dX1_formOf_49 : decode cX1_formOf 49 = .ok (.areturn, 1) := by decide +kernel
theorem dX1_formOf_50 : decode cX1_formOf 50 = .ok (.ldc 80, 2) := by decide +kernel
theorem dX1_formOf_52 : decode cX1_formOf 52 = .ok (.areturn, 1) := by decide +kernel
theorem dX1_formOf_53 : decode cX1_formOf 53 = .ok (.ldc 82, 2) := by decide +kernel
theorem dX1_formOf_55 : decode cX1_formOf 55 = .ok (.areturn, 1) := by decide +kernel
theorem dX1_formOf_56 : decode cX1_formOf 56 = .ok (.ldc 84, 2) := by decide +kernel
theorem dX1_formOf_58 : decode cX1_formOf 58 = .ok (.areturn, 1) := by decide +kernel
set_option maxRecDepth 20000 in
theorem ggX1_readPiece_X1_readNumber : GoodIn wsX1_readPiece wsX1_readNumber := goodIn_r _ [5, 6, 7, 8, 9, 4, 10, 11, 12, 13, 14, 15, 16, 17, 18, 19, 20, 21, 22, 23, 24, 25, 38, 39, 40, 41, 42, 43] (by decide +kernel) (by decide +kernel)
set_option maxRecDepth 20000 in
theorem gX1_readPiece_X1_readNumber : GoodIn wsX1_readPiece (wsV RX1 86 RX1 yX1_readNumber wsX1_readNumber) := goodIn_app (goodIn_of _ (by decide +kernel)) ggX1_readPiece_X1_readNumber
set_option maxRecDepth 20000 in
theorem ggX1_readPiece_X1_readDigit : GoodIn wsX1_readPiece wsX1_readDigit := goodIn_r _ [29, 6, 7, 8, 9, 4, 10, 11, 12, 13, 14, 15, 16, 17, 18, 19, 20, 21, 22, 23, 24, 25, 38, 39, 40, 41, 42, 43] (by decide +kernel) (by decide +kernel)
set_option maxRecDepth 20000 in
theorem gX1_readPiece_X1_readDigit : GoodIn wsX1_readPiece (wsV RX1 89 RX1 yX1_readDigit wsX1_readDigit) := goodIn_app (goodIn_of _ (by decide +kernel)) ggX1_readPiece_X1_readDigit
set_option maxRecDepth 20000 in
theorem ggX1_readPiece_X1_readSkills : GoodIn wsX1_readPiece wsX1_readSkills := goodIn_r _ [33, 6, 7, 8, 9, 4, 10, 11, 12, 13, 14, 15, 16, 17, 18, 19, 20, 21, 22, 23, 24, 25, 38, 39, 40, 41, 42, 43] (by decide +kernel) (by decide +kernel)
set_option maxRecDepth 20000 in
theorem gX1_readPiece_X1_readSkills : GoodIn wsX1_readPiece (wsV RX1 92 RX1 yX1_readSkills wsX1_readSkills) := goodIn_app (goodIn_of _ (by decide +kernel)) ggX1_readPiece_X1_readSkills
set_option maxRecDepth 20000 in
theorem ggX1_readPiece_X1_readSign : GoodIn wsX1_readPiece wsX1_readSign := goodIn_r _ [37, 6, 11, 12, 13, 4, 14, 15, 16, 38, 39, 40, 41, 42, 43] (by decide +kernel) (by decide +kernel)
set_option maxRecDepth 20000 in
theorem gX1_readPiece_X1_readSign : GoodIn wsX1_readPiece (wsV RX1 42 RX1 yX1_readSign wsX1_readSign) := goodIn_app (goodIn_of _ (by decide +kernel)) ggX1_readPiece_X1_readSign
theorem dX1_readPiece_0 : decode cX1_readPiece 0 = .ok (.iload_n 1, 1) := by decide +kernel
theorem dX1_readPiece_1 : decode cX1_readPiece 1 = .ok (.lookupswitch 50 #[(100, 40), (110, 35), (115, 45)], 35) := by decide +kernel
theorem dX1_readPiece_36 : decode cX1_readPiece 36 = .ok (.aload_n 0, 1) := by decide +kernel
theorem dX1_readPiece_37 : decode cX1_readPiece 37 = .ok (.invokevirtual 86, 3) := by decide +kernel
theorem dX1_readPiece_40 : decode cX1_readPiece 40 = .ok (.ireturn, 1) := by decide +kernel
theorem dX1_readPiece_41 : decode cX1_readPiece 41 = .ok (.aload_n 0, 1) := by decide +kernel
theorem dX1_readPiece_42 : decode cX1_readPiece 42 = .ok (.invokevirtual 89, 3) := by decide +kernel
theorem dX1_readPiece_45 : decode cX1_readPiece 45 = .ok (.ireturn, 1) := by decide +kernel
theorem dX1_readPiece_46 : decode cX1_readPiece 46 = .ok (.aload_n 0, 1) := by decide +kernel
theorem dX1_readPiece_47 : decode cX1_readPiece 47 = .ok (.invokevirtual 92, 3) := by decide +kernel
theorem dX1_readPiece_50 : decode cX1_readPiece 50 = .ok (.ireturn, 1) := by decide +kernel
theorem dX1_readPiece_51 : decode cX1_readPiece 51 = .ok (.aload_n 0, 1) := by decide +kernel
theorem dX1_readPiece_52 : decode cX1_readPiece 52 = .ok (.iload_n 1, 1) := by decide +kernel
theorem dX1_readPiece_53 : decode cX1_readPiece 53 = .ok (.invokevirtual 42, 3) := by decide +kernel
theorem dX1_readPiece_56 : decode cX1_readPiece 56 = .ok (.ireturn, 1) := by decide +kernel
theorem dX1_nextSign_0 : decode cX1_nextSign 0 = .ok (.aload_n 0, 1) := by decide +kernel
theorem dX1_nextSign_1 : decode cX1_nextSign 1 = .ok (.getfield 29, 3) := by decide +kernel
theorem dX1_nextSign_4 : decode cX1_nextSign 4 = .ok (.ifCond .lt 26, 3) := by decide +kernel
theorem dX1_nextSign_7 : decode cX1_nextSign 7 = .ok (.aload_n 0, 1) := by decide +kernel
theorem dX1_nextSign_8 : decode cX1_nextSign 8 = .ok (.getfield 29, 3) := by decide +kernel
theorem dX1_nextSign_11 : decode cX1_nextSign 11 = .ok (.aload_n 0, 1) := by decide +kernel
theorem dX1_nextSign_12 : decode cX1_nextSign 12 = .ok (.getfield 25, 3) := by decide +kernel
theorem dX1_nextSign_15 : decode cX1_nextSign 15 = .ok (.if_icmp .ge 15, 3) := by decide +kernel
theorem dX1_nextSign_18 : decode cX1_nextSign 18 = .ok (.aload_n 0, 1) := by decide +kernel
theorem dX1_nextSign_19 : decode cX1_nextSign 19 = .ok (.getfield 9, 3) := by decide +kernel
theorem dX1_nextSign_22 : decode cX1_nextSign 22 = .ok (.aload_n 0, 1) := by decide +kernel
theorem dX1_nextSign_23 : decode cX1_nextSign 23 = .ok (.getfield 29, 3) := by decide +kernel
theorem dX1_nextSign_26 : decode cX1_nextSign 26 = .ok (.caload, 1) := by decide +kernel
theorem dX1_nextSign_27 : decode cX1_nextSign 27 = .ok (.goto 4, 3) := by decide +kernel
theorem dX1_nextSign_30 : decode cX1_nextSign 30 = .ok (.iconst 0, 1) := by decide +kernel
theorem dX1_nextSign_31 : decode cX1_nextSign 31 = .ok (.ireturn, 1) := by decide +kernel
set_option maxRecDepth 20000 in
theorem ggX1_readSign_X1_nextSign : GoodIn wsX1_readSign wsX1_nextSign := goodIn_r _ [6, 1, 7, 8, 9, 10, 11, 12, 13, 14] (by decide +kernel) (by decide +kernel)
set_option maxRecDepth 20000 in
theorem gX1_readSign_X1_nextSign : GoodIn wsX1_readSign (wsV RX1 46 RX1 yX1_nextSign wsX1_nextSign) := goodIn_app (goodIn_of _ (by decide +kernel)) ggX1_readSign_X1_nextSign
theorem dX1_readSign_0 : decode cX1_readSign 0 = .ok (.aload_n 0, 1) := by decide +kernel
theorem dX1_readSign_1 : decode cX1_readSign 1 = .ok (.invokevirtual 46, 3) := by decide +kernel
theorem dX1_readSign_4 : decode cX1_readSign 4 = .ok (.iload_n 1, 1) := by decide +kernel
theorem dX1_readSign_5 : decode cX1_readSign 5 = .ok (.if_icmp .eq 5, 3) := by decide +kernel
theorem dX1_readSign_8 : decode cX1_readSign 8 = .ok (.iconst 0, 1) := by decide +kernel
theorem dX1_readSign_9 : decode cX1_readSign 9 = .ok (.ireturn, 1) := by decide +kernel
theorem dX1_readSign_10 : decode cX1_readSign 10 = .ok (.aload_n 0, 1) := by decide +kernel
theorem dX1_readSign_11 : decode cX1_readSign 11 = .ok (.dup, 1) := by decide +kernel
theorem dX1_readSign_12 : decode cX1_readSign 12 = .ok (.getfield 29, 3) := by decide +kernel
theorem dX1_readSign_15 : decode cX1_readSign 15 = .ok (.iconst 1, 1) := by decide +kernel
theorem dX1_readSign_16 : decode cX1_readSign 16 = .ok (.iadd, 1) := by decide +kernel
theorem dX1_readSign_17 : decode cX1_readSign 17 = .ok (.putfield 29, 3) := by decide +kernel
theorem dX1_readSign_20 : decode cX1_readSign 20 = .ok (.iconst 1, 1) := by decide +kernel
theorem dX1_readSign_21 : decode cX1_readSign 21 = .ok (.ireturn, 1) := by decide +kernel
set_option maxRecDepth 20000 in
theorem ggX1_nextDigit_X1_nextSign : GoodIn wsX1_nextDigit wsX1_nextSign := goodIn_r _ [5, 6, 7, 8, 12, 13, 14, 15, 16, 17] (by decide +kernel) (by decide +kernel)
set_option maxRecDepth 20000 in
theorem gX1_nextDigit_X1_nextSign : GoodIn wsX1_nextDigit (wsV RX1 46 RX1 yX1_nextSign wsX1_nextSign) := goodIn_app (goodIn_of _ (by decide +kernel)) ggX1_nextDigit_X1_nextSign
set_option maxRecDepth 20000 in
theorem ggX1_nextDigit_X4_within : GoodIn wsX1_nextDigit wsX4_within := goodIn_r _ [11] (by decide +kernel) (by decide +kernel)
set_option maxRecDepth 20000 in
theorem gX1_nextDigit_X4_within_n21 : GoodIn wsX1_nextDigit (wsX4_within) := ggX1_nextDigit_X4_within
theorem dX1_nextDigit_0 : decode cX1_nextDigit 0 = .ok (.aload_n 0, 1) := by decide +kernel
theorem dX1_nextDigit_1 : decode cX1_nextDigit 1 = .ok (.invokevirtual 46, 3) := by decide +kernel
theorem dX1_nextDigit_4 : decode cX1_nextDigit 4 = .ok (.bipush 48, 2) := by decide +kernel
theorem dX1_nextDigit_6 : decode cX1_nextDigit 6 = .ok (.isub, 1) := by decide +kernel
theorem dX1_nextDigit_7 : decode cX1_nextDigit 7 = .ok (.istore_n 1, 1) := by decide +kernel
theorem dX1_nextDigit_8 : decode cX1_nextDigit 8 = .ok (.iload_n 1, 1) := by decide +kernel
theorem dX1_nextDigit_9 : decode cX1_nextDigit 9 = .ok (.iconst 0, 1) := by decide +kernel
theorem dX1_nextDigit_10 : decode cX1_nextDigit 10 = .ok (.bipush 9, 2) := by decide +kernel
theorem dX1_nextDigit_12 : decode cX1_nextDigit 12 = .ok (.invokestatic 21, 3) := by decide +kernel
theorem dX1_nextDigit_15 : decode cX1_nextDigit 15 = .ok (.ifCond .eq 7, 3) := by decide +kernel
theorem dX1_nextDigit_18 : decode cX1_nextDigit 18 = .ok (.iload_n 1, 1) := by decide +kernel
theorem dX1_nextDigit_19 : decode cX1_nextDigit 19 = .ok (.goto 5, 3) := by decide +kernel
theorem dX1_nextDigit_22 : decode cX1_nextDigit 22 = .ok (.bipush (-6), 2) := by decide +kernel
theorem dX1_nextDigit_24 : decode cX1_nextDigit 24 = .ok (.ireturn, 1) := by decide +kernel
set_option maxRecDepth 20000 in
theorem ggX1_readDigit_X1_nextDigit : GoodIn wsX1_readDigit wsX1_nextDigit := goodIn_r _ [6, 7, 8, 9, 5, 10, 1, 11, 12, 13, 14, 15, 22, 23, 24, 25, 26, 27] (by decide +kernel) (by decide +kernel)
set_option maxRecDepth 20000 in
theorem gX1_readDigit_X1_nextDigit : GoodIn wsX1_readDigit (wsV RX1 95 RX1 yX1_nextDigit wsX1_nextDigit) := goodIn_app (goodIn_of _ (by decide +kernel)) ggX1_readDigit_X1_nextDigit
set_option maxRecDepth 20000 in
theorem ggX1_readDigit_X1_tell : GoodIn wsX1_readDigit wsX1_tell := goodIn_r _ [19, 20, 21, 22, 23, 24, 25, 26, 27] (by decide +kernel) (by decide +kernel)
set_option maxRecDepth 20000 in
theorem gX1_readDigit_X1_tell : GoodIn wsX1_readDigit (wsV RX1 98 RX1 yX1_tell wsX1_tell) := goodIn_app (goodIn_of _ (by decide +kernel)) ggX1_readDigit_X1_tell
theorem dX1_readDigit_0 : decode cX1_readDigit 0 = .ok (.aload_n 0, 1) := by decide +kernel
theorem dX1_readDigit_1 : decode cX1_readDigit 1 = .ok (.invokevirtual 95, 3) := by decide +kernel
theorem dX1_readDigit_4 : decode cX1_readDigit 4 = .ok (.istore_n 1, 1) := by decide +kernel
theorem dX1_readDigit_5 : decode cX1_readDigit 5 = .ok (.iload_n 1, 1) := by decide +kernel
theorem dX1_readDigit_6 : decode cX1_readDigit 6 = .ok (.bipush (-6), 2) := by decide +kernel
theorem dX1_readDigit_8 : decode cX1_readDigit 8 = .ok (.if_icmp .ne 5, 3) := by decide +kernel
theorem dX1_readDigit_11 : decode cX1_readDigit 11 = .ok (.iconst 0, 1) := by decide +kernel
theorem dX1_readDigit_12 : decode cX1_readDigit 12 = .ok (.ireturn, 1) := by decide +kernel
theorem dX1_readDigit_13 : decode cX1_readDigit 13 = .ok (.aload_n 0, 1) := by decide +kernel
theorem dX1_readDigit_14 : decode cX1_readDigit 14 = .ok (.dup, 1) := by decide +kernel
theorem dX1_readDigit_15 : decode cX1_readDigit 15 = .ok (.getfield 29, 3) := by decide +kernel
theorem dX1_readDigit_18 : decode cX1_readDigit 18 = .ok (.iconst 1, 1) := by decide +kernel
theorem dX1_readDigit_19 : decode cX1_readDigit 19 = .ok (.iadd, 1) := by decide +kernel
theorem dX1_readDigit_20 : decode cX1_readDigit 20 = .ok (.putfield 29, 3) := by decide +kernel
theorem dX1_readDigit_23 : decode cX1_readDigit 23 = .ok (.aload_n 0, 1) := by decide +kernel
theorem dX1_readDigit_24 : decode cX1_readDigit 24 = .ok (.iload_n 1, 1) := by decide +kernel
theorem dX1_readDigit_25 : decode cX1_readDigit 25 = .ok (.invokevirtual 98, 3) := by decide +kernel
theorem dX1_readDigit_28 : decode cX1_readDigit 28 = .ok (.iconst 1, 1) := by decide +kernel
theorem dX1_readDigit_29 : decode cX1_readDigit 29 = .ok (.ireturn, 1) := by decide +kernel
set_option maxRecDepth 20000 in
theorem ggX1_readNumber_X1_nextDigit : GoodIn wsX1_readNumber wsX1_nextDigit := goodIn_r _ [6, 7, 8, 9, 5, 10, 1, 11, 12, 13, 14, 15, 22, 23, 24, 25, 26, 27] (by decide +kernel) (by decide +kernel)
set_option maxRecDepth 20000 in
theorem gX1_readNumber_X1_nextDigit : GoodIn wsX1_readNumber (wsV RX1 95 RX1 yX1_nextDigit wsX1_nextDigit) := goodIn_app (goodIn_of _ (by decide +kernel)) ggX1_readNumber_X1_nextDigit
set_option maxRecDepth 20000 in
theorem ggX1_readNumber_X1_tell : GoodIn wsX1_readNumber wsX1_tell := goodIn_r _ [19, 20, 21, 22, 23, 24, 25, 26, 27] (by decide +kernel) (by decide +kernel)
set_option maxRecDepth 20000 in
theorem gX1_readNumber_X1_tell : GoodIn wsX1_readNumber (wsV RX1 98 RX1 yX1_tell wsX1_tell) := goodIn_app (goodIn_of _ (by decide +kernel)) ggX1_readNumber_X1_tell
theorem dX1_readNumber_0 : decode cX1_readNumber 0 = .ok (.aload_n 0, 1) := by decide +kernel
theorem dX1_readNumber_1 : decode cX1_readNumber 1 = .ok (.invokevirtual 95, 3) := by decide +kernel
theorem dX1_readNumber_4 : decode cX1_readNumber 4 = .ok (.istore_n 1, 1) := by decide +kernel
theorem dX1_readNumber_5 : decode cX1_readNumber 5 = .ok (.iload_n 1, 1) := by decide +kernel
theorem dX1_readNumber_6 : decode cX1_readNumber 6 = .ok (.bipush (-6), 2) := by decide +kernel
theorem dX1_readNumber_8 : decode cX1_readNumber 8 = .ok (.if_icmp .ne 5, 3) := by decide +kernel
theorem dX1_readNumber_11 : decode cX1_readNumber 11 = .ok (.iconst 0, 1) := by decide +kernel
theorem dX1_readNumber_12 : decode cX1_readNumber 12 = .ok (.ireturn, 1) := by decide +kernel
theorem dX1_readNumber_13 : decode cX1_readNumber 13 = .ok (.aload_n 0, 1) := by decide +kernel
theorem dX1_readNumber_14 : decode cX1_readNumber 14 = .ok (.dup, 1) := by decide +kernel
theorem dX1_readNumber_15 : decode cX1_readNumber 15 = .ok (.getfield 29, 3) := by decide +kernel
theorem dX1_readNumber_18 : decode cX1_readNumber 18 = .ok (.iconst 1, 1) := by decide +kernel
theorem dX1_readNumber_19 : decode cX1_readNumber 19 = .ok (.iadd, 1) := by decide +kernel
theorem dX1_readNumber_20 : decode cX1_readNumber 20 = .ok (.putfield 29, 3) := by decide +kernel
theorem dX1_readNumber_23 : decode cX1_readNumber 23 = .ok (.iconst 1, 1) := by decide +kernel
theorem dX1_readNumber_24 : decode cX1_readNumber 24 = .ok (.istore_n 2, 1) := by decide +kernel
theorem dX1_readNumber_25 : decode cX1_readNumber 25 = .ok (.iload_n 2, 1) := by decide +kernel
theorem dX1_readNumber_26 : decode cX1_readNumber 26 = .ok (.iconst 3, 1) := by decide +kernel
theorem dX1_readNumber_27 : decode cX1_readNumber 27 = .ok (.if_icmp .ge 42, 3) := by decide +kernel
theorem dX1_readNumber_30 : decode cX1_readNumber 30 = .ok (.iload_n 1, 1) := by decide +kernel
theorem dX1_readNumber_31 : decode cX1_readNumber 31 = .ok (.ifCond .le 38, 3) := by decide +kernel
theorem dX1_readNumber_34 : decode cX1_readNumber 34 = .ok (.aload_n 0, 1) := by decide +kernel
theorem dX1_readNumber_35 : decode cX1_readNumber 35 = .ok (.invokevirtual 95, 3) := by decide +kernel
theorem dX1_readNumber_38 : decode cX1_readNumber 38 = .ok (.bipush (-6), 2) := by decide +kernel
theorem dX1_readNumber_40 : decode cX1_readNumber 40 = .ok (.if_icmp .eq 29, 3) := by decide +kernel
theorem dX1_readNumber_43 : decode cX1_readNumber 43 = .ok (.iload_n 1, 1) := by decide +kernel
theorem dX1_readNumber_44 : decode cX1_readNumber 44 = .ok (.bipush 10, 2) := by decide +kernel
theorem dX1_readNumber_46 : decode cX1_readNumber 46 = .ok (.imul, 1) := by decide +kernel
theorem dX1_readNumber_47 : decode cX1_readNumber 47 = .ok (.aload_n 0, 1) := by decide +kernel
theorem dX1_readNumber_48 : decode cX1_readNumber 48 = .ok (.invokevirtual 95, 3) := by decide +kernel
theorem dX1_readNumber_51 : decode cX1_readNumber 51 = .ok (.iadd, 1) := by decide +kernel
theorem dX1_readNumber_52 : decode cX1_readNumber 52 = .ok (.istore_n 1, 1) := by decide +kernel
theorem dX1_readNumber_53 : decode cX1_readNumber 53 = .ok (.aload_n 0, 1) := by decide +kernel
theorem dX1_readNumber_54 : decode cX1_readNumber 54 = .ok (.dup, 1) := by decide +kernel
theorem dX1_readNumber_55 : decode cX1_readNumber 55 = .ok (.getfield 29, 3) := by decide +kernel
theorem dX1_readNumber_58 : decode cX1_readNumber 58 = .ok (.iconst 1, 1) := by decide +kernel
theorem dX1_readNumber_59 : decode cX1_readNumber 59 = .ok (.iadd, 1) := by decide +kernel
theorem dX1_readNumber_60 : decode cX1_readNumber 60 = .ok (.putfield 29, 3) := by decide +kernel
theorem dX1_readNumber_63 : decode cX1_readNumber 63 = .ok (.iinc 2 1, 3) := by decide +kernel
theorem dX1_readNumber_66 : decode cX1_readNumber 66 = .ok (.goto (-41), 3) := by decide +kernel
theorem dX1_readNumber_69 : decode cX1_readNumber 69 = .ok (.aload_n 0, 1) := by decide +kernel
theorem dX1_readNumber_70 : decode cX1_readNumber 70 = .ok (.iload_n 1, 1) := by decide +kernel
theorem dX1_readNumber_71 : decode cX1_readNumber 71 = .ok (.invokevirtual 98, 3) := by decide +kernel
theorem dX1_readNumber_74 : decode cX1_readNumber 74 = .ok (.iconst 1, 1) := by decide +kernel
theorem dX1_readNumber_75 : decode cX1_readNumber 75 = .ok (.ireturn, 1) := by decide +kernel
set_option maxRecDepth 20000 in
theorem ggX1_readSkills_X1_nextDigit : GoodIn wsX1_readSkills wsX1_nextDigit := goodIn_r _ [6, 7, 8, 9, 5, 10, 1, 11, 12, 13, 14, 15, 22, 23, 24, 25, 26, 27] (by decide +kernel) (by decide +kernel)
set_option maxRecDepth 20000 in
theorem gX1_readSkills_X1_nextDigit : GoodIn wsX1_readSkills (wsV RX1 95 RX1 yX1_nextDigit wsX1_nextDigit) := goodIn_app (goodIn_of _ (by decide +kernel)) ggX1_readSkills_X1_nextDigit
set_option maxRecDepth 20000 in
theorem ggX1_readSkills_X4_within : GoodIn wsX1_readSkills wsX4_within := goodIn_r _ [15] (by decide +kernel) (by decide +kernel)
set_option maxRecDepth 20000 in
theorem gX1_readSkills_X4_within_n21 : GoodIn wsX1_readSkills (wsX4_within) := ggX1_readSkills_X4_within
set_option maxRecDepth 20000 in
theorem ggX1_readSkills_X1_tell : GoodIn wsX1_readSkills wsX1_tell := goodIn_r _ [19, 20, 21, 22, 23, 24, 25, 26, 27] (by decide +kernel) (by decide +kernel)
set_option maxRecDepth 20000 in
theorem gX1_readSkills_X1_tell : GoodIn wsX1_readSkills (wsV RX1 98 RX1 yX1_tell wsX1_tell) := goodIn_app (goodIn_of _ (by decide +kernel)) ggX1_readSkills_X1_tell
theorem dX1_readSkills_0 : decode cX1_readSkills 0 = .ok (.iconst 0, 1) := by decide +kernel
theorem dX1_readSkills_1 : decode cX1_readSkills 1 = .ok (.istore_n 1, 1) := by decide +kernel
theorem dX1_readSkills_2 : decode cX1_readSkills 2 = .ok (.iconst 0, 1) := by decide +kernel
theorem dX1_readSkills_3 : decode cX1_readSkills 3 = .ok (.istore_n 2, 1) := by decide +kernel
theorem dX1_readSkills_4 : decode cX1_readSkills 4 = .ok (.iload_n 2, 1) := by decide +kernel
theorem dX1_readSkills_5 : decode cX1_readSkills 5 = .ok (.bipush 80, 2) := by decide +kernel
theorem dX1_readSkills_7 : decode cX1_readSkills 7 = .ok (.if_icmp .ge 40, 3) := by decide +kernel
theorem dX1_readSkills_10 : decode cX1_readSkills 10 = .ok (.aload_n 0, 1) := by decide +kernel
theorem dX1_readSkills_11 : decode cX1_readSkills 11 = .ok (.invokevirtual 95, 3) := by decide +kernel
theorem dX1_readSkills_14 : decode cX1_readSkills 14 = .ok (.iconst 0, 1) := by decide +kernel
theorem dX1_readSkills_15 : decode cX1_readSkills 15 = .ok (.iconst 3, 1) := by decide +kernel
theorem dX1_readSkills_16 : decode cX1_readSkills 16 = .ok (.invokestatic 21, 3) := by decide +kernel
theorem dX1_readSkills_19 : decode cX1_readSkills 19 = .ok (.ifCond .eq 28, 3) := by decide +kernel
theorem dX1_readSkills_22 : decode cX1_readSkills 22 = .ok (.iload_n 1, 1) := by decide +kernel
theorem dX1_readSkills_23 : decode cX1_readSkills 23 = .ok (.iconst 1, 1) := by decide +kernel
theorem dX1_readSkills_24 : decode cX1_readSkills 24 = .ok (.aload_n 0, 1) := by decide +kernel
theorem dX1_readSkills_25 : decode cX1_readSkills 25 = .ok (.invokevirtual 95, 3) := by decide +kernel
theorem dX1_readSkills_28 : decode cX1_readSkills 28 = .ok (.ishl, 1) := by decide +kernel
theorem dX1_readSkills_29 : decode cX1_readSkills 29 = .ok (.ior, 1) := by decide +kernel
theorem dX1_readSkills_30 : decode cX1_readSkills 30 = .ok (.istore_n 1, 1) := by decide +kernel
theorem dX1_readSkills_31 : decode cX1_readSkills 31 = .ok (.aload_n 0, 1) := by decide +kernel
theorem dX1_readSkills_32 : decode cX1_readSkills 32 = .ok (.dup, 1) := by decide +kernel
theorem dX1_readSkills_33 : decode cX1_readSkills 33 = .ok (.getfield 29, 3) := by decide +kernel
theorem dX1_readSkills_36 : decode cX1_readSkills 36 = .ok (.iconst 1, 1) := by decide +kernel
theorem dX1_readSkills_37 : decode cX1_readSkills 37 = .ok (.iadd, 1) := by decide +kernel
theorem dX1_readSkills_38 : decode cX1_readSkills 38 = .ok (.putfield 29, 3) := by decide +kernel
theorem dX1_readSkills_41 : decode cX1_readSkills 41 = .ok (.iinc 2 1, 3) := by decide +kernel
theorem dX1_readSkills_44 : decode cX1_readSkills 44 = .ok (.goto (-40), 3) := by decide +kernel
theorem dX1_readSkills_47 : decode cX1_readSkills 47 = .ok (.aload_n 0, 1) := by decide +kernel
theorem dX1_readSkills_48 : decode cX1_readSkills 48 = .ok (.iload_n 1, 1) := by decide +kernel
theorem dX1_readSkills_49 : decode cX1_readSkills 49 = .ok (.invokevirtual 98, 3) := by decide +kernel
theorem dX1_readSkills_52 : decode cX1_readSkills 52 = .ok (.iload_n 1, 1) := by decide +kernel
theorem dX1_readSkills_53 : decode cX1_readSkills 53 = .ok (.ifCond .eq 7, 3) := by decide +kernel
theorem dX1_readSkills_56 : decode cX1_readSkills 56 = .ok (.iconst 1, 1) := by decide +kernel
theorem dX1_readSkills_57 : decode cX1_readSkills 57 = .ok (.goto 4, 3) := by decide +kernel
theorem dX1_readSkills_60 : decode cX1_readSkills 60 = .ok (.iconst 0, 1) := by decide +kernel
theorem dX1_readSkills_61 : decode cX1_readSkills 61 = .ok (.ireturn, 1) := by decide +kernel
theorem dX1_tell_0 : decode cX1_tell 0 = .ok (.aload_n 0, 1) := by decide +kernel
theorem dX1_tell_1 : decode cX1_tell 1 = .ok (.getfield 63, 3) := by decide +kernel
theorem dX1_tell_4 : decode cX1_tell 4 = .ok (.bipush 6, 2) := by decide +kernel
theorem dX1_tell_6 : decode cX1_tell 6 = .ok (.if_icmp .ge 23, 3) := by decide +kernel
theorem dX1_tell_9 : decode cX1_tell 9 = .ok (.aload_n 0, 1) := by decide +kernel
theorem dX1_tell_10 : decode cX1_tell 10 = .ok (.getfield 15, 3) := by decide +kernel
theorem dX1_tell_13 : decode cX1_tell 13 = .ok (.aload_n 0, 1) := by decide +kernel
theorem dX1_tell_14 : decode cX1_tell 14 = .ok (.getfield 63, 3) := by decide +kernel
theorem dX1_tell_17 : decode cX1_tell 17 = .ok (.iload_n 1, 1) := by decide +kernel
theorem dX1_tell_18 : decode cX1_tell 18 = .ok (.iastore, 1) := by decide +kernel
theorem dX1_tell_19 : decode cX1_tell 19 = .ok (.aload_n 0, 1) := by decide +kernel
theorem dX1_tell_20 : decode cX1_tell 20 = .ok (.dup, 1) := by decide +kernel
theorem dX1_tell_21 : decode cX1_tell 21 = .ok (.getfield 63, 3) := by decide +kernel
theorem dX1_tell_24 : decode cX1_tell 24 = .ok (.iconst 1, 1) := by decide +kernel
theorem dX1_tell_25 : decode cX1_tell 25 = .ok (.iadd, 1) := by decide +kernel
theorem dX1_tell_26 : decode cX1_tell 26 = .ok (.putfield 63, 3) := by decide +kernel
theorem dX1_tell_29 : decode cX1_tell 29 = .ok (.return_, 1) := by decide +kernel
theorem dX2_init_0 : decode cX2_init 0 = .ok (.aload_n 0, 1) := by decide +kernel
theorem dX2_init_1 : decode cX2_init 1 = .ok (.invokespecial 3, 3) := by decide +kernel
theorem dX2_init_4 : decode cX2_init 4 = .ok (.aload_n 0, 1) := by decide +kernel
theorem dX2_init_5 : decode cX2_init 5 = .ok (.bipush 21, 2) := by decide +kernel
theorem dX2_init_7 : decode cX2_init 7 = .ok (.newarray .int, 2) := by decide +kernel
theorem dX2_init_9 : decode cX2_init 9 = .ok (.putfield 9, 3) := by decide +kernel
theorem dX2_init_12 : decode cX2_init 12 = .ok (.aload_n 0, 1) := by decide +kernel
theorem dX2_init_13 : decode cX2_init 13 = .ok (.bipush 84, 2) := by decide +kernel
theorem dX2_init_15 : decode cX2_init 15 = .ok (.newarray .int, 2) := by decide +kernel
theorem dX2_init_17 : decode cX2_init 17 = .ok (.putfield 15, 3) := by decide +kernel
theorem dX2_init_20 : decode cX2_init 20 = .ok (.aload_n 0, 1) := by decide +kernel
theorem dX2_init_21 : decode cX2_init 21 = .ok (.bipush 24, 2) := by decide +kernel
theorem dX2_init_23 : decode cX2_init 23 = .ok (.newarray .int, 2) := by decide +kernel
theorem dX2_init_25 : decode cX2_init 25 = .ok (.putfield 18, 3) := by decide +kernel
theorem dX2_init_28 : decode cX2_init 28 = .ok (.aload_n 0, 1) := by decide +kernel
theorem dX2_init_29 : decode cX2_init 29 = .ok (.bipush 20, 2) := by decide +kernel
theorem dX2_init_31 : decode cX2_init 31 = .ok (.newarray .int, 2) := by decide +kernel
theorem dX2_init_33 : decode cX2_init 33 = .ok (.putfield 21, 3) := by decide +kernel
theorem dX2_init_36 : decode cX2_init 36 = .ok (.aload_n 0, 1) := by decide +kernel
theorem dX2_init_37 : decode cX2_init 37 = .ok (.sipush 1008, 3) := by decide +kernel
theorem dX2_init_40 : decode cX2_init 40 = .ok (.newarray .int, 2) := by decide +kernel
theorem dX2_init_42 : decode cX2_init 42 = .ok (.putfield 24, 3) := by decide +kernel
theorem dX2_init_45 : decode cX2_init 45 = .ok (.return_, 1) := by decide +kernel
set_option maxRecDepth 20000 in
theorem ggX2_make_X2_sendVansHome : GoodIn wsX2_make wsX2_sendVansHome := goodIn_r _ [10, 4, 11, 12, 13, 14, 15, 16, 17, 18, 19, 20, 21, 22, 23, 97, 98, 99, 100, 101, 102, 103, 91, 92, 93, 94, 95, 96] (by decide +kernel) (by decide +kernel)
set_option maxRecDepth 20000 in
theorem gX2_make_X2_sendVansHome : GoodIn wsX2_make (wsV RX2 38 RX2 yX2_sendVansHome wsX2_sendVansHome) := goodIn_app (goodIn_of _ (by decide +kernel)) ggX2_make_X2_sendVansHome
set_option maxRecDepth 20000 in
theorem ggX2_make_X2_orderByEnds : GoodIn wsX2_make wsX2_orderByEnds := goodIn_r _ [27, 2, 5, 28, 29, 30, 16, 31, 32, 97, 98, 99, 100, 101, 102, 103, 91, 92, 93, 94, 95, 96] (by decide +kernel) (by decide +kernel)
set_option maxRecDepth 20000 in
theorem gX2_make_X2_orderByEnds : GoodIn wsX2_make (wsV RX2 42 RX2 yX2_orderByEnds wsX2_orderByEnds) := goodIn_app (goodIn_of _ (by decide +kernel)) ggX2_make_X2_orderByEnds
set_option maxRecDepth 20000 in
theorem ggX2_make_X2_look : GoodIn wsX2_make wsX2_look := goodIn_r _ [36, 37, 38, 39, 40, 41, 42, 43, 44, 9, 45, 4, 28, 29, 30, 16, 31, 32, 46, 47, 48, 49, 13, 14, 15, 17, 18, 50, 51, 52, 53, 54, 55, 56, 57, 12, 58, 59, 60, 61, 62, 63, 64, 65, 66, 67, 68, 11, 69, 70, 71, 72, 73, 74, 75, 76, 77, 78, 79, 80, 81, 82, 83, 84, 85, 86, 87, 88, 89, 90, 91, 92, 93, 94, 95, 96, 97, 98, 99, 100, 101, 102, 103] (by decide +kernel) (by decide +kernel)
set_option maxRecDepth 20000 in
theorem gX2_make_X2_look : GoodIn wsX2_make (wsV RX2 45 RX2 yX2_look wsX2_look) := goodIn_app (goodIn_of _ (by decide +kernel)) ggX2_make_X2_look
set_option maxRecDepth 20000 in
theorem ggX2_make_X2_outcome : GoodIn wsX2_make wsX2_outcome := goodIn_r _ [85, 77, 97, 98, 99, 100, 101, 102, 103] (by decide +kernel) (by decide +kernel)
set_option maxRecDepth 20000 in
theorem gX2_make_X2_outcome : GoodIn wsX2_make (wsV RX2 49 RX2 yX2_outcome wsX2_outcome) := goodIn_app (goodIn_of _ (by decide +kernel)) ggX2_make_X2_outcome
theorem dX2_make_0 : decode cX2_make 0 = .ok (.aload_n 0, 1) := by decide +kernel
theorem dX2_make_1 : decode cX2_make 1 = .ok (.aload_n 1, 1) := by decide +kernel
theorem dX2_make_2 : decode cX2_make 2 = .ok (.getfield 27, 3) := by decide +kernel
theorem dX2_make_5 : decode cX2_make 5 = .ok (.putfield 33, 3) := by decide +kernel
theorem dX2_make_8 : decode cX2_make 8 = .ok (.aload_n 0, 1) := by decide +kernel
theorem dX2_make_9 : decode cX2_make 9 = .ok (.aload_n 1, 1) := by decide +kernel
theorem dX2_make_10 : decode cX2_make 10 = .ok (.getfield 34, 3) := by decide +kernel
theorem dX2_make_13 : decode cX2_make 13 = .ok (.putfield 37, 3) := by decide +kernel
theorem dX2_make_16 : decode cX2_make 16 = .ok (.aload_n 0, 1) := by decide +kernel
theorem dX2_make_17 : decode cX2_make 17 = .ok (.aload_n 1, 1) := by decide +kernel
theorem dX2_make_18 : decode cX2_make 18 = .ok (.invokevirtual 38, 3) := by decide +kernel
theorem dX2_make_21 : decode cX2_make 21 = .ok (.aload_n 0, 1) := by decide +kernel
theorem dX2_make_22 : decode cX2_make 22 = .ok (.aload_n 1, 1) := by decide +kernel
theorem dX2_make_23 : decode cX2_make 23 = .ok (.invokevirtual 42, 3) := by decide +kernel
theorem dX2_make_26 : decode cX2_make 26 = .ok (.iconst 0, 1) := by decide +kernel
theorem dX2_make_27 : decode cX2_make 27 = .ok (.istore_n 2, 1) := by decide +kernel
theorem dX2_make_28 : decode cX2_make 28 = .ok (.iload_n 2, 1) := by decide +kernel
theorem dX2_make_29 : decode cX2_make 29 = .ok (.aload_n 0, 1) := by decide +kernel
theorem dX2_make_30 : decode cX2_make 30 = .ok (.getfield 33, 3) := by decide +kernel
theorem dX2_make_33 : decode cX2_make 33 = .ok (.if_icmp .ge 21, 3) := by decide +kernel
theorem dX2_make_36 : decode cX2_make 36 = .ok (.aload_n 0, 1) := by decide +kernel
theorem dX2_make_37 : decode cX2_make 37 = .ok (.aload_n 1, 1) := by decide +kernel
theorem dX2_make_38 : decode cX2_make 38 = .ok (.aload_n 0, 1) := by decide +kernel
theorem dX2_make_39 : decode cX2_make 39 = .ok (.getfield 9, 3) := by decide +kernel
theorem dX2_make_42 : decode cX2_make 42 = .ok (.iload_n 2, 1) := by decide +kernel
theorem dX2_make_43 : decode cX2_make 43 = .ok (.iaload, 1) := by decide +kernel
theorem dX2_make_44 : decode cX2_make 44 = .ok (.iconst 0, 1) := by decide +kernel
theorem dX2_make_45 : decode cX2_make 45 = .ok (.invokevirtual 45, 3) := by decide +kernel
theorem dX2_make_48 : decode cX2_make 48 = .ok (.iinc 2 1, 3) := by decide +kernel
theorem dX2_make_51 : decode cX2_make 51 = .ok (.goto (-23), 3) := by decide +kernel
theorem dX2_make_54 : decode cX2_make 54 = .ok (.iconst 0, 1) := by decide +kernel
theorem dX2_make_55 : decode cX2_make 55 = .ok (.istore_n 2, 1) := by decide +kernel
theorem dX2_make_56 : decode cX2_make 56 = .ok (.iload_n 2, 1) := by decide +kernel
theorem dX2_make_57 : decode cX2_make 57 = .ok (.aload_n 0, 1) := by decide +kernel
theorem dX2_make_58 : decode cX2_make 58 = .ok (.getfield 33, 3) := by decide +kernel
theorem dX2_make_61 : decode cX2_make 61 = .ok (.if_icmp .ge 36, 3) := by decide +kernel
theorem dX2_make_64 : decode cX2_make 64 = .ok (.aload_n 0, 1) := by decide +kernel
theorem dX2_make_65 : decode cX2_make 65 = .ok (.aload_n 0, 1) := by decide +kernel
theorem dX2_make_66 : decode cX2_make 66 = .ok (.getfield 9, 3) := by decide +kernel
theorem dX2_make_69 : decode cX2_make 69 = .ok (.iload_n 2, 1) := by decide +kernel
theorem dX2_make_70 : decode cX2_make 70 = .ok (.iaload, 1) := by decide +kernel
theorem dX2_make_71 : decode cX2_make 71 = .ok (.iconst 0, 1) := by decide +kernel
theorem dX2_make_72 : decode cX2_make 72 = .ok (.invokevirtual 49, 3) := by decide +kernel
theorem dX2_make_75 : decode cX2_make 75 = .ok (.iconst 4, 1) := by decide +kernel
theorem dX2_make_76 : decode cX2_make 76 = .ok (.if_icmp .ne 15, 3) := by decide +kernel
theorem dX2_make_79 : decode cX2_make 79 = .ok (.aload_n 0, 1) := by decide +kernel
theorem dX2_make_80 : decode cX2_make 80 = .ok (.aload_n 1, 1) := by decide +kernel
theorem dX2_make_81 : decode cX2_make 81 = .ok (.aload_n 0, 1) := by decide +kernel
theorem dX2_make_82 : decode cX2_make 82 = .ok (.getfield 9, 3) := by decide +kernel
theorem dX2_make_85 : decode cX2_make 85 = .ok (.iload_n 2, 1) := by decide +kernel
theorem dX2_make_86 : decode cX2_make 86 = .ok (.iaload, 1) := by decide +kernel
theorem dX2_make_87 : decode cX2_make 87 = .ok (.iconst 1, 1) := by decide +kernel
theorem dX2_make_88 : decode cX2_make 88 = .ok (.invokevirtual 45, 3) := by decide +kernel
theorem dX2_make_91 : decode cX2_make 91 = .ok (.iinc 2 1, 3) := by decide +kernel
theorem dX2_make_94 : decode cX2_make 94 = .ok (.goto (-38), 3) := by decide +kernel
theorem dX2_make_97 : decode cX2_make 97 = .ok (.return_, 1) := by decide +kernel
theorem dX2_outcome_0 : decode cX2_outcome 0 = .ok (.aload_n 0, 1) := by decide +kernel
theorem dX2_outcome_1 : decode cX2_outcome 1 = .ok (.getfield 15, 3) := by decide +kernel
theorem dX2_outcome_4 : decode cX2_outcome 4 = .ok (.iload_n 1, 1) := by decide +kernel
theorem dX2_outcome_5 : decode cX2_outcome 5 = .ok (.iconst 4, 1) := by decide +kernel
theorem dX2_outcome_6 : decode cX2_outcome 6 = .ok (.imul, 1) := by decide +kernel
theorem dX2_outcome_7 : decode cX2_outcome 7 = .ok (.iload_n 2, 1) := by decide +kernel
theorem dX2_outcome_8 : decode cX2_outcome 8 = .ok (.iadd, 1) := by decide +kernel
theorem dX2_outcome_9 : decode cX2_outcome 9 = .ok (.iaload, 1) := by decide +kernel
theorem dX2_outcome_10 : decode cX2_outcome 10 = .ok (.ireturn, 1) := by decide +kernel
theorem dX2_driveFact_0 : decode cX2_driveFact 0 = .ok (.aload_n 0, 1) := by decide +kernel
theorem dX2_driveFact_1 : decode cX2_driveFact 1 = .ok (.getfield 18, 3) := by decide +kernel
theorem dX2_driveFact_4 : decode cX2_driveFact 4 = .ok (.iload_n 1, 1) := by decide +kernel
theorem dX2_driveFact_5 : decode cX2_driveFact 5 = .ok (.bipush 6, 2) := by decide +kernel
theorem dX2_driveFact_7 : decode cX2_driveFact 7 = .ok (.imul, 1) := by decide +kernel
theorem dX2_driveFact_8 : decode cX2_driveFact 8 = .ok (.iload_n 2, 1) := by decide +kernel
theorem dX2_driveFact_9 : decode cX2_driveFact 9 = .ok (.iadd, 1) := by decide +kernel
theorem dX2_driveFact_10 : decode cX2_driveFact 10 = .ok (.iaload, 1) := by decide +kernel
theorem dX2_driveFact_11 : decode cX2_driveFact 11 = .ok (.ireturn, 1) := by decide +kernel
theorem dX2_partsLeft_0 : decode cX2_partsLeft 0 = .ok (.aload_n 0, 1) := by decide +kernel
theorem dX2_partsLeft_1 : decode cX2_partsLeft 1 = .ok (.getfield 21, 3) := by decide +kernel
theorem dX2_partsLeft_4 : decode cX2_partsLeft 4 = .ok (.iload_n 1, 1) := by decide +kernel
theorem dX2_partsLeft_5 : decode cX2_partsLeft 5 = .ok (.iconst 5, 1) := by decide +kernel
theorem dX2_partsLeft_6 : decode cX2_partsLeft 6 = .ok (.imul, 1) := by decide +kernel
theorem dX2_partsLeft_7 : decode cX2_partsLeft 7 = .ok (.iload_n 2, 1) := by decide +kernel
theorem dX2_partsLeft_8 : decode cX2_partsLeft 8 = .ok (.iadd, 1) := by decide +kernel
theorem dX2_partsLeft_9 : decode cX2_partsLeft 9 = .ok (.iaload, 1) := by decide +kernel
theorem dX2_partsLeft_10 : decode cX2_partsLeft 10 = .ok (.ireturn, 1) := by decide +kernel
theorem dX2_eventFact_0 : decode cX2_eventFact 0 = .ok (.aload_n 0, 1) := by decide +kernel
theorem dX2_eventFact_1 : decode cX2_eventFact 1 = .ok (.getfield 24, 3) := by decide +kernel
theorem dX2_eventFact_4 : decode cX2_eventFact 4 = .ok (.iload_n 1, 1) := by decide +kernel
theorem dX2_eventFact_5 : decode cX2_eventFact 5 = .ok (.bipush 63, 2) := by decide +kernel
theorem dX2_eventFact_7 : decode cX2_eventFact 7 = .ok (.imul, 1) := by decide +kernel
theorem dX2_eventFact_8 : decode cX2_eventFact 8 = .ok (.iload_n 2, 1) := by decide +kernel
theorem dX2_eventFact_9 : decode cX2_eventFact 9 = .ok (.iadd, 1) := by decide +kernel
theorem dX2_eventFact_10 : decode cX2_eventFact 10 = .ok (.iconst 4, 1) := by decide +kernel
theorem dX2_eventFact_11 : decode cX2_eventFact 11 = .ok (.imul, 1) := by decide +kernel
theorem dX2_eventFact_12 : decode cX2_eventFact 12 = .ok (.iload_n 3, 1) := by decide +kernel
theorem dX2_eventFact_13 : decode cX2_eventFact 13 = .ok (.iadd, 1) := by decide +kernel
theorem dX2_eventFact_14 : decode cX2_eventFact 14 = .ok (.iaload, 1) := by decide +kernel
theorem dX2_eventFact_15 : decode cX2_eventFact 15 = .ok (.ireturn, 1) := by decide +kernel
set_option maxRecDepth 20000 in
theorem ggX2_promisesThatAre_X2_outcome : GoodIn wsX2_promisesThatAre wsX2_outcome := goodIn_r _ [6, 7, 8, 9, 10, 11, 12, 13, 14] (by decide +kernel) (by decide +kernel)
set_option maxRecDepth 20000 in
theorem gX2_promisesThatAre_X2_outcome : GoodIn wsX2_promisesThatAre (wsV RX2 49 RX2 yX2_outcome wsX2_outcome) := goodIn_app (goodIn_of _ (by decide +kernel)) ggX2_promisesThatAre_X2_outcome
theorem dX2_promisesThatAre_0 : decode cX2_promisesThatAre 0 = .ok (.iconst 0, 1) := by decide +kernel
theorem dX2_promisesThatAre_1 : decode cX2_promisesThatAre 1 = .ok (.istore_n 2, 1) := by decide +kernel
theorem dX2_promisesThatAre_2 : decode cX2_promisesThatAre 2 = .ok (.iconst 0, 1) := by decide +kernel
theorem dX2_promisesThatAre_3 : decode cX2_promisesThatAre 3 = .ok (.istore_n 3, 1) := by decide +kernel
theorem dX2_promisesThatAre_4 : decode cX2_promisesThatAre 4 = .ok (.iload_n 3, 1) := by decide +kernel
theorem dX2_promisesThatAre_5 : decode cX2_promisesThatAre 5 = .ok (.aload_n 0, 1) := by decide +kernel
theorem dX2_promisesThatAre_6 : decode cX2_promisesThatAre 6 = .ok (.getfield 33, 3) := by decide +kernel
theorem dX2_promisesThatAre_9 : decode cX2_promisesThatAre 9 = .ok (.if_icmp .ge 22, 3) := by decide +kernel
theorem dX2_promisesThatAre_12 : decode cX2_promisesThatAre 12 = .ok (.aload_n 0, 1) := by decide +kernel
theorem dX2_promisesThatAre_13 : decode cX2_promisesThatAre 13 = .ok (.iload_n 3, 1) := by decide +kernel
theorem dX2_promisesThatAre_14 : decode cX2_promisesThatAre 14 = .ok (.iconst 0, 1) := by decide +kernel
theorem dX2_promisesThatAre_15 : decode cX2_promisesThatAre 15 = .ok (.invokevirtual 49, 3) := by decide +kernel
theorem dX2_promisesThatAre_18 : decode cX2_promisesThatAre 18 = .ok (.iload_n 1, 1) := by decide +kernel
theorem dX2_promisesThatAre_19 : decode cX2_promisesThatAre 19 = .ok (.if_icmp .ne 6, 3) := by decide +kernel
theorem dX2_promisesThatAre_22 : decode cX2_promisesThatAre 22 = .ok (.iinc 2 1, 3) := by decide +kernel
theorem dX2_promisesThatAre_25 : decode cX2_promisesThatAre 25 = .ok (.iinc 3 1, 3) := by decide +kernel
theorem dX2_promisesThatAre_28 : decode cX2_promisesThatAre 28 = .ok (.goto (-24), 3) := by decide +kernel
theorem dX2_promisesThatAre_31 : decode cX2_promisesThatAre 31 = .ok (.iload_n 2, 1) := by decide +kernel
theorem dX2_promisesThatAre_32 : decode cX2_promisesThatAre 32 = .ok (.ireturn, 1) := by decide +kernel
set_option maxRecDepth 20000 in
theorem ggX2_visitsMade_X2_promisesThatAre : GoodIn wsX2_visitsMade wsX2_promisesThatAre := goodIn_r _ [5, 6, 7, 8, 9, 4, 10, 11, 12, 13, 14, 15, 16, 17, 18] (by decide +kernel) (by decide +kernel)
set_option maxRecDepth 20000 in
theorem gX2_visitsMade_X2_promisesThatAre : GoodIn wsX2_visitsMade (wsV RX2 53 RX2 yX2_promisesThatAre wsX2_promisesThatAre) := goodIn_app (goodIn_of _ (by decide +kernel)) ggX2_visitsMade_X2_promisesThatAre
theorem dX2_visitsMade_0 : decode cX2_visitsMade 0 = .ok (.aload_n 0, 1) := by decide +kernel
theorem dX2_visitsMade_1 : decode cX2_visitsMade 1 = .ok (.iconst 0, 1) := by decide +kernel
theorem dX2_visitsMade_2 : decode cX2_visitsMade 2 = .ok (.invokevirtual 53, 3) := by decide +kernel
theorem dX2_visitsMade_5 : decode cX2_visitsMade 5 = .ok (.aload_n 0, 1) := by decide +kernel
theorem dX2_visitsMade_6 : decode cX2_visitsMade 6 = .ok (.iconst 1, 1) := by decide +kernel
theorem dX2_visitsMade_7 : decode cX2_visitsMade 7 = .ok (.invokevirtual 53, 3) := by decide +kernel
theorem dX2_visitsMade_10 : decode cX2_visitsMade 10 = .ok (.iadd, 1) := by decide +kernel
theorem dX2_visitsMade_11 : decode cX2_visitsMade 11 = .ok (.ireturn, 1) := by decide +kernel
set_option maxRecDepth 20000 in
theorem ggX2_sumOverVans_X2_driveFact : GoodIn wsX2_sumOverVans wsX2_driveFact := goodIn_r _ [6, 7, 8, 9, 10, 11, 12, 13, 14] (by decide +kernel) (by decide +kernel)
set_option maxRecDepth 20000 in
theorem gX2_sumOverVans_X2_driveFact : GoodIn wsX2_sumOverVans (wsV RX2 57 RX2 yX2_driveFact wsX2_driveFact) := goodIn_app (goodIn_of _ (by decide +kernel)) ggX2_sumOverVans_X2_driveFact
theorem dX2_sumOverVans_0 : decode cX2_sumOverVans 0 = .ok (.iconst 0, 1) := by decide +kernel
theorem dX2_sumOverVans_1 : decode cX2_sumOverVans 1 = .ok (.istore_n 2, 1) := by decide +kernel
theorem dX2_sumOverVans_2 : decode cX2_sumOverVans 2 = .ok (.iconst 0, 1) := by decide +kernel
theorem dX2_sumOverVans_3 : decode cX2_sumOverVans 3 = .ok (.istore_n 3, 1) := by decide +kernel
theorem dX2_sumOverVans_4 : decode cX2_sumOverVans 4 = .ok (.iload_n 3, 1) := by decide +kernel
theorem dX2_sumOverVans_5 : decode cX2_sumOverVans 5 = .ok (.aload_n 0, 1) := by decide +kernel
theorem dX2_sumOverVans_6 : decode cX2_sumOverVans 6 = .ok (.getfield 37, 3) := by decide +kernel
theorem dX2_sumOverVans_9 : decode cX2_sumOverVans 9 = .ok (.if_icmp .ge 18, 3) := by decide +kernel
theorem dX2_sumOverVans_12 : decode cX2_sumOverVans 12 = .ok (.iload_n 2, 1) := by decide +kernel
theorem dX2_sumOverVans_13 : decode cX2_sumOverVans 13 = .ok (.aload_n 0, 1) := by decide +kernel
theorem dX2_sumOverVans_14 : decode cX2_sumOverVans 14 = .ok (.iload_n 3, 1) := by decide +kernel
theorem dX2_sumOverVans_15 : decode cX2_sumOverVans 15 = .ok (.iload_n 1, 1) := by decide +kernel
theorem dX2_sumOverVans_16 : decode cX2_sumOverVans 16 = .ok (.invokevirtual 57, 3) := by decide +kernel
theorem dX2_sumOverVans_19 : decode cX2_sumOverVans 19 = .ok (.iadd, 1) := by decide +kernel
theorem dX2_sumOverVans_20 : decode cX2_sumOverVans 20 = .ok (.istore_n 2, 1) := by decide +kernel
theorem dX2_sumOverVans_21 : decode cX2_sumOverVans 21 = .ok (.iinc 3 1, 3) := by decide +kernel
theorem dX2_sumOverVans_24 : decode cX2_sumOverVans 24 = .ok (.goto (-20), 3) := by decide +kernel
theorem dX2_sumOverVans_27 : decode cX2_sumOverVans 27 = .ok (.iload_n 2, 1) := by decide +kernel
theorem dX2_sumOverVans_28 : decode cX2_sumOverVans 28 = .ok (.ireturn, 1) := by decide +kernel
set_option maxRecDepth 20000 in
theorem ggX2_lastFree_X2_driveFact : GoodIn wsX2_lastFree wsX2_driveFact := goodIn_r _ [10, 11, 12, 13, 14, 15, 16, 17, 18] (by decide +kernel) (by decide +kernel)
set_option maxRecDepth 20000 in
theorem gX2_lastFree_X2_driveFact : GoodIn wsX2_lastFree (wsV RX2 57 RX2 yX2_driveFact wsX2_driveFact) := goodIn_app (goodIn_of _ (by decide +kernel)) ggX2_lastFree_X2_driveFact
theorem dX2_lastFree_0 : decode cX2_lastFree 0 = .ok (.iconst 0, 1) := by decide +kernel
theorem dX2_lastFree_1 : decode cX2_lastFree 1 = .ok (.istore_n 1, 1) := by decide +kernel
theorem dX2_lastFree_2 : decode cX2_lastFree 2 = .ok (.iconst 0, 1) := by decide +kernel
theorem dX2_lastFree_3 : decode cX2_lastFree 3 = .ok (.istore_n 2, 1) := by decide +kernel
theorem dX2_lastFree_4 : decode cX2_lastFree 4 = .ok (.iload_n 2, 1) := by decide +kernel
theorem dX2_lastFree_5 : decode cX2_lastFree 5 = .ok (.aload_n 0, 1) := by decide +kernel
theorem dX2_lastFree_6 : decode cX2_lastFree 6 = .ok (.getfield 37, 3) := by decide +kernel
theorem dX2_lastFree_9 : decode cX2_lastFree 9 = .ok (.if_icmp .ge 20, 3) := by decide +kernel
theorem dX2_lastFree_12 : decode cX2_lastFree 12 = .ok (.iload_n 1, 1) := by decide +kernel
theorem dX2_lastFree_13 : decode cX2_lastFree 13 = .ok (.aload_n 0, 1) := by decide +kernel
theorem dX2_lastFree_14 : decode cX2_lastFree 14 = .ok (.iload_n 2, 1) := by decide +kernel
theorem dX2_lastFree_15 : decode cX2_lastFree 15 = .ok (.iconst 3, 1) := by decide +kernel
theorem dX2_lastFree_16 : decode cX2_lastFree 16 = .ok (.invokevirtual 57, 3) := by decide +kernel
theorem dX2_lastFree_19 : decode cX2_lastFree 19 = .ok (.invokestatic 60, 3) := by decide +kernel
theorem dX2_lastFree_22 : decode cX2_lastFree 22 = .ok (.istore_n 1, 1) := by decide +kernel
theorem dX2_lastFree_23 : decode cX2_lastFree 23 = .ok (.iinc 2 1, 3) := by decide +kernel
theorem dX2_lastFree_26 : decode cX2_lastFree 26 = .ok (.goto (-22), 3) := by decide +kernel
theorem dX2_lastFree_29 : decode cX2_lastFree 29 = .ok (.iload_n 1, 1) := by decide +kernel
theorem dX2_lastFree_30 : decode cX2_lastFree 30 = .ok (.ireturn, 1) := by decide +kernel
set_option maxRecDepth 20000 in
theorem ggX2_sendVansHome_X3_vanFact : GoodIn wsX2_sendVansHome wsX3_vanFact := goodIn_r _ [8, 9, 22, 23, 24, 25, 26, 27] (by decide +kernel) (by decide +kernel)
set_option maxRecDepth 20000 in
theorem gX2_sendVansHome_X3_vanFact : GoodIn wsX2_sendVansHome (wsV RX2 65 RX3 yX3_vanFact wsX3_vanFact) := goodIn_app (goodIn_of _ (by decide +kernel)) ggX2_sendVansHome_X3_vanFact
set_option maxRecDepth 20000 in
theorem ggX2_sendVansHome_X3_partsOf : GoodIn wsX2_sendVansHome wsX3_partsOf := goodIn_r _ [13, 14, 22, 23, 24, 25, 26, 27] (by decide +kernel) (by decide +kernel)
set_option maxRecDepth 20000 in
theorem gX2_sendVansHome_X3_partsOf : GoodIn wsX2_sendVansHome (wsV RX2 68 RX3 yX3_partsOf wsX3_partsOf) := goodIn_app (goodIn_of _ (by decide +kernel)) ggX2_sendVansHome_X3_partsOf
theorem dX2_sendVansHome_0 : decode cX2_sendVansHome 0 = .ok (.iconst 0, 1) := by decide +kernel
theorem dX2_sendVansHome_1 : decode cX2_sendVansHome 1 = .ok (.istore_n 2, 1) := by decide +kernel
theorem dX2_sendVansHome_2 : decode cX2_sendVansHome 2 = .ok (.iload_n 2, 1) := by decide +kernel
theorem dX2_sendVansHome_3 : decode cX2_sendVansHome 3 = .ok (.aload_n 0, 1) := by decide +kernel
theorem dX2_sendVansHome_4 : decode cX2_sendVansHome 4 = .ok (.getfield 37, 3) := by decide +kernel
theorem dX2_sendVansHome_7 : decode cX2_sendVansHome 7 = .ok (.if_icmp .ge 87, 3) := by decide +kernel
theorem dX2_sendVansHome_10 : decode cX2_sendVansHome 10 = .ok (.iload_n 2, 1) := by decide +kernel
theorem dX2_sendVansHome_11 : decode cX2_sendVansHome 11 = .ok (.bipush 6, 2) := by decide +kernel
theorem dX2_sendVansHome_13 : decode cX2_sendVansHome 13 = .ok (.imul, 1) := by decide +kernel
theorem dX2_sendVansHome_14 : decode cX2_sendVansHome 14 = .ok (.istore_n 3, 1) := by decide +kernel
theorem dX2_sendVansHome_15 : decode cX2_sendVansHome 15 = .ok (.iconst 0, 1) := by decide +kernel
theorem dX2_sendVansHome_16 : decode cX2_sendVansHome 16 = .ok (.istore 4, 2) := by decide +kernel
theorem dX2_sendVansHome_18 : decode cX2_sendVansHome 18 = .ok (.iload 4, 2) := by decide +kernel
theorem dX2_sendVansHome_20 : decode cX2_sendVansHome 20 = .ok (.bipush 6, 2) := by decide +kernel
theorem dX2_sendVansHome_22 : decode cX2_sendVansHome 22 = .ok (.if_icmp .ge 19, 3) := by decide +kernel
theorem dX2_sendVansHome_25 : decode cX2_sendVansHome 25 = .ok (.aload_n 0, 1) := by decide +kernel
theorem dX2_sendVansHome_26 : decode cX2_sendVansHome 26 = .ok (.getfield 18, 3) := by decide +kernel
theorem dX2_sendVansHome_29 : decode cX2_sendVansHome 29 = .ok (.iload_n 3, 1) := by decide +kernel
theorem dX2_sendVansHome_30 : decode cX2_sendVansHome 30 = .ok (.iload 4, 2) := by decide +kernel
theorem dX2_sendVansHome_32 : decode cX2_sendVansHome 32 = .ok (.iadd, 1) := by decide +kernel
theorem dX2_sendVansHome_33 : decode cX2_sendVansHome 33 = .ok (.iconst 0, 1) := by decide +kernel
theorem dX2_sendVansHome_34 : decode cX2_sendVansHome 34 = .ok (.iastore, 1) := by decide +kernel
theorem dX2_sendVansHome_35 : decode cX2_sendVansHome 35 = .ok (.iinc 4 1, 3) := by decide +kernel
theorem dX2_sendVansHome_38 : decode cX2_sendVansHome 38 = .ok (.goto (-20), 3) := by decide +kernel
theorem dX2_sendVansHome_41 : decode cX2_sendVansHome 41 = .ok (.aload_n 0, 1) := by decide +kernel
theorem dX2_sendVansHome_42 : decode cX2_sendVansHome 42 = .ok (.getfield 18, 3) := by decide +kernel
theorem dX2_sendVansHome_45 : decode cX2_sendVansHome 45 = .ok (.iload_n 3, 1) := by decide +kernel
theorem dX2_sendVansHome_46 : decode cX2_sendVansHome 46 = .ok (.iconst 4, 1) := by decide +kernel
theorem dX2_sendVansHome_47 : decode cX2_sendVansHome 47 = .ok (.iadd, 1) := by decide +kernel
theorem dX2_sendVansHome_48 : decode cX2_sendVansHome 48 = .ok (.aload_n 1, 1) := by decide +kernel
theorem dX2_sendVansHome_49 : decode cX2_sendVansHome 49 = .ok (.iload_n 2, 1) := by decide +kernel
theorem dX2_sendVansHome_50 : decode cX2_sendVansHome 50 = .ok (.iconst 0, 1) := by decide +kernel
theorem dX2_sendVansHome_51 : decode cX2_sendVansHome 51 = .ok (.invokevirtual 65, 3) := by decide +kernel
theorem dX2_sendVansHome_54 : decode cX2_sendVansHome 54 = .ok (.iastore, 1) := by decide +kernel
theorem dX2_sendVansHome_55 : decode cX2_sendVansHome 55 = .ok (.iconst 0, 1) := by decide +kernel
theorem dX2_sendVansHome_56 : decode cX2_sendVansHome 56 = .ok (.istore 4, 2) := by decide +kernel
theorem dX2_sendVansHome_58 : decode cX2_sendVansHome 58 = .ok (.iload 4, 2) := by decide +kernel
theorem dX2_sendVansHome_60 : decode cX2_sendVansHome 60 = .ok (.iconst 5, 1) := by decide +kernel
theorem dX2_sendVansHome_61 : decode cX2_sendVansHome 61 = .ok (.if_icmp .ge 27, 3) := by decide +kernel
theorem dX2_sendVansHome_64 : decode cX2_sendVansHome 64 = .ok (.aload_n 0, 1) := by decide +kernel
theorem dX2_sendVansHome_65 : decode cX2_sendVansHome 65 = .ok (.getfield 21, 3) := by decide +kernel
theorem dX2_sendVansHome_68 : decode cX2_sendVansHome 68 = .ok (.iload_n 2, 1) := by decide +kernel
theorem dX2_sendVansHome_69 : decode cX2_sendVansHome 69 = .ok (.iconst 5, 1) := by decide +kernel
theorem dX2_sendVansHome_70 : decode cX2_sendVansHome 70 = .ok (.imul, 1) := by decide +kernel
theorem dX2_sendVansHome_71 : decode cX2_sendVansHome 71 = .ok (.iload 4, 2) := by decide +kernel
theorem dX2_sendVansHome_73 : decode cX2_sendVansHome 73 = .ok (.iadd, 1) := by decide +kernel
theorem dX2_sendVansHome_74 : decode cX2_sendVansHome 74 = .ok (.aload_n 1, 1) := by decide +kernel
theorem dX2_sendVansHome_75 : decode cX2_sendVansHome 75 = .ok (.iload_n 2, 1) := by decide +kernel
theorem dX2_sendVansHome_76 : decode cX2_sendVansHome 76 = .ok (.iload 4, 2) := by decide +kernel
theorem dX2_sendVansHome_78 : decode cX2_sendVansHome 78 = .ok (.invokevirtual 68, 3) := by decide +kernel
theorem dX2_sendVansHome_81 : decode cX2_sendVansHome 81 = .ok (.iastore, 1) := by decide +kernel
theorem dX2_sendVansHome_82 : decode cX2_sendVansHome 82 = .ok (.iinc 4 1, 3) := by decide +kernel
theorem dX2_sendVansHome_85 : decode cX2_sendVansHome 85 = .ok (.goto (-27), 3) := by decide +kernel
theorem dX2_sendVansHome_88 : decode cX2_sendVansHome 88 = .ok (.iinc 2 1, 3) := by decide +kernel
theorem dX2_sendVansHome_91 : decode cX2_sendVansHome 91 = .ok (.goto (-89), 3) := by decide +kernel
theorem dX2_sendVansHome_94 : decode cX2_sendVansHome 94 = .ok (.return_, 1) := by decide +kernel
set_option maxRecDepth 20000 in
theorem ggX2_orderByEnds_X3_visitFact : GoodIn wsX2_orderByEnds wsX3_visitFact := goodIn_r _ [7, 8, 16, 17, 18, 19, 20, 21] (by decide +kernel) (by decide +kernel)
set_option maxRecDepth 20000 in
theorem gX2_orderByEnds_X3_visitFact : GoodIn wsX2_orderByEnds (wsV RX2 71 RX3 yX3_visitFact wsX3_visitFact) := goodIn_app (goodIn_of _ (by decide +kernel)) ggX2_orderByEnds_X3_visitFact
theorem dX2_orderByEnds_0 : decode cX2_orderByEnds 0 = .ok (.iconst 0, 1) := by decide +kernel
theorem dX2_orderByEnds_1 : decode cX2_orderByEnds 1 = .ok (.istore_n 2, 1) := by decide +kernel
theorem dX2_orderByEnds_2 : decode cX2_orderByEnds 2 = .ok (.iload_n 2, 1) := by decide +kernel
theorem dX2_orderByEnds_3 : decode cX2_orderByEnds 3 = .ok (.aload_n 0, 1) := by decide +kernel
theorem dX2_orderByEnds_4 : decode cX2_orderByEnds 4 = .ok (.getfield 33, 3) := by decide +kernel
theorem dX2_orderByEnds_7 : decode cX2_orderByEnds 7 = .ok (.if_icmp .ge 72, 3) := by decide +kernel
theorem dX2_orderByEnds_10 : decode cX2_orderByEnds 10 = .ok (.aload_n 1, 1) := by decide +kernel
theorem dX2_orderByEnds_11 : decode cX2_orderByEnds 11 = .ok (.iload_n 2, 1) := by decide +kernel
theorem dX2_orderByEnds_12 : decode cX2_orderByEnds 12 = .ok (.iconst 5, 1) := by decide +kernel
theorem dX2_orderByEnds_13 : decode cX2_orderByEnds 13 = .ok (.invokevirtual 71, 3) := by decide +kernel
theorem dX2_orderByEnds_16 : decode cX2_orderByEnds 16 = .ok (.istore_n 3, 1) := by decide +kernel
theorem dX2_orderByEnds_17 : decode cX2_orderByEnds 17 = .ok (.iload_n 2, 1) := by decide +kernel
theorem dX2_orderByEnds_18 : decode cX2_orderByEnds 18 = .ok (.istore 4, 2) := by decide +kernel
theorem dX2_orderByEnds_20 : decode cX2_orderByEnds 20 = .ok (.iload 4, 2) := by decide +kernel
theorem dX2_orderByEnds_22 : decode cX2_orderByEnds 22 = .ok (.ifCond .le 43, 3) := by decide +kernel
theorem dX2_orderByEnds_25 : decode cX2_orderByEnds 25 = .ok (.aload_n 1, 1) := by decide +kernel
theorem dX2_orderByEnds_26 : decode cX2_orderByEnds 26 = .ok (.aload_n 0, 1) := by decide +kernel
theorem dX2_orderByEnds_27 : decode cX2_orderByEnds 27 = .ok (.getfield 9, 3) := by decide +kernel
theorem dX2_orderByEnds_30 : decode cX2_orderByEnds 30 = .ok (.iload 4, 2) := by decide +kernel
theorem dX2_orderByEnds_32 : decode cX2_orderByEnds 32 = .ok (.iconst 1, 1) := by decide +kernel
theorem dX2_orderByEnds_33 : decode cX2_orderByEnds 33 = .ok (.isub, 1) := by decide +kernel
theorem dX2_orderByEnds_34 : decode cX2_orderByEnds 34 = .ok (.iaload, 1) := by decide +kernel
theorem dX2_orderByEnds_35 : decode cX2_orderByEnds 35 = .ok (.iconst 5, 1) := by decide +kernel
theorem dX2_orderByEnds_36 : decode cX2_orderByEnds 36 = .ok (.invokevirtual 71, 3) := by decide +kernel
theorem dX2_orderByEnds_39 : decode cX2_orderByEnds 39 = .ok (.iload_n 3, 1) := by decide +kernel
theorem dX2_orderByEnds_40 : decode cX2_orderByEnds 40 = .ok (.if_icmp .le 25, 3) := by decide +kernel
theorem dX2_orderByEnds_43 : decode cX2_orderByEnds 43 = .ok (.aload_n 0, 1) := by decide +kernel
theorem dX2_orderByEnds_44 : decode cX2_orderByEnds 44 = .ok (.getfield 9, 3) := by decide +kernel
theorem dX2_orderByEnds_47 : decode cX2_orderByEnds 47 = .ok (.iload 4, 2) := by decide +kernel
theorem dX2_orderByEnds_49 : decode cX2_orderByEnds 49 = .ok (.aload_n 0, 1) := by decide +kernel
theorem dX2_orderByEnds_50 : decode cX2_orderByEnds 50 = .ok (.getfield 9, 3) := by decide +kernel
theorem dX2_orderByEnds_53 : decode cX2_orderByEnds 53 = .ok (.iload 4, 2) := by decide +kernel
theorem dX2_orderByEnds_55 : decode cX2_orderByEnds 55 = .ok (.iconst 1, 1) := by decide +kernel
theorem dX2_orderByEnds_56 : decode cX2_orderByEnds 56 = .ok (.isub, 1) := by decide +kernel
theorem dX2_orderByEnds_57 : decode cX2_orderByEnds 57 = .ok (.iaload, 1) := by decide +kernel
theorem dX2_orderByEnds_58 : decode cX2_orderByEnds 58 = .ok (.iastore, 1) := by decide +kernel
theorem dX2_orderByEnds_59 : decode cX2_orderByEnds 59 = .ok (.iinc 4 (-1), 3) := by decide +kernel
theorem dX2_orderByEnds_62 : decode cX2_orderByEnds 62 = .ok (.goto (-42), 3) := by decide +kernel
theorem dX2_orderByEnds_65 : decode cX2_orderByEnds 65 = .ok (.aload_n 0, 1) := by decide +kernel
theorem dX2_orderByEnds_66 : decode cX2_orderByEnds 66 = .ok (.getfield 9, 3) := by decide +kernel
theorem dX2_orderByEnds_69 : decode cX2_orderByEnds 69 = .ok (.iload 4, 2) := by decide +kernel
theorem dX2_orderByEnds_71 : decode cX2_orderByEnds 71 = .ok (.iload_n 2, 1) := by decide +kernel
theorem dX2_orderByEnds_72 : decode cX2_orderByEnds 72 = .ok (.iastore, 1) := by decide +kernel
theorem dX2_orderByEnds_73 : decode cX2_orderByEnds 73 = .ok (.iinc 2 1, 3) := by decide +kernel
theorem dX2_orderByEnds_76 : decode cX2_orderByEnds 76 = .ok (.goto (-74), 3) := by decide +kernel
theorem dX2_orderByEnds_79 : decode cX2_orderByEnds 79 = .ok (.return_, 1) := by decide +kernel
set_option maxRecDepth 20000 in
theorem ggX2_look_X2_firstToBegin : GoodIn wsX2_look wsX2_firstToBegin := goodIn_r _ [10, 11, 2, 3, 4, 5, 12, 13, 14, 15, 16, 17, 18, 19, 20, 9, 21, 22, 23, 24, 25, 26, 27, 28, 29, 30, 31, 32, 33, 34, 35, 36, 37, 38, 39, 40, 41, 42, 1, 43, 44, 45, 46, 47, 76, 77, 78, 79, 80, 81, 82, 70, 71, 72, 73, 74, 75] (by decide +kernel) (by decide +kernel)
set_option maxRecDepth 20000 in
theorem gX2_look_X2_firstToBegin : GoodIn wsX2_look (wsV RX2 77 RX2 yX2_firstToBegin wsX2_firstToBegin) := goodIn_app (goodIn_of _ (by decide +kernel)) ggX2_look_X2_firstToBegin
set_option maxRecDepth 20000 in
theorem ggX2_look_X2_reason : GoodIn wsX2_look wsX2_reason := goodIn_r _ [51, 11, 18, 19, 20, 9, 21, 22, 23, 24, 15, 25, 26, 12, 13, 14, 16, 17, 27, 28, 29, 30, 31, 32, 33, 34, 35, 76, 77, 78, 79, 80, 81, 82, 70, 71, 72, 73, 74, 75] (by decide +kernel) (by decide +kernel)
set_option maxRecDepth 20000 in
theorem gX2_look_X2_reason : GoodIn wsX2_look (wsV RX2 81 RX2 yX2_reason wsX2_reason) := goodIn_app (goodIn_of _ (by decide +kernel)) ggX2_look_X2_reason
set_option maxRecDepth 20000 in
theorem ggX2_look_X2_putOutcome : GoodIn wsX2_look wsX2_putOutcome := goodIn_r _ [55, 56, 76, 77, 78, 79, 80, 81, 82] (by decide +kernel) (by decide +kernel)
set_option maxRecDepth 20000 in
theorem gX2_look_X2_putOutcome : GoodIn wsX2_look (wsV RX2 85 RX2 yX2_putOutcome wsX2_putOutcome) := goodIn_app (goodIn_of _ (by decide +kernel)) ggX2_look_X2_putOutcome
set_option maxRecDepth 20000 in
theorem ggX2_look_X2_comes : GoodIn wsX2_look wsX2_comes := goodIn_r _ [39, 40, 41, 4, 42, 1, 12, 13, 14, 15, 16, 17, 43, 44, 45, 9, 46, 47, 70, 71, 72, 73, 74, 75, 76, 77, 78, 79, 80, 81, 82] (by decide +kernel) (by decide +kernel)
set_option maxRecDepth 20000 in
theorem gX2_look_X2_comes : GoodIn wsX2_look (wsV RX2 89 RX2 yX2_comes wsX2_comes) := goodIn_app (goodIn_of _ (by decide +kernel)) ggX2_look_X2_comes
set_option maxRecDepth 20000 in
theorem ggX2_look_X3_visitFact : GoodIn wsX2_look wsX3_visitFact := goodIn_r _ [16, 17, 70, 71, 72, 73, 74, 75] (by decide +kernel) (by decide +kernel)
set_option maxRecDepth 20000 in
theorem gX2_look_X3_visitFact : GoodIn wsX2_look (wsV RX2 71 RX3 yX3_visitFact wsX3_visitFact) := goodIn_app (goodIn_of _ (by decide +kernel)) ggX2_look_X3_visitFact
set_option maxRecDepth 20000 in
theorem ggX2_look_X2_drive : GoodIn wsX2_look wsX2_drive := goodIn_r _ [60, 47, 35, 36, 37, 38, 9, 39, 40, 41, 4, 42, 1, 12, 13, 14, 15, 16, 17, 43, 44, 45, 46, 61, 62, 63, 64, 56, 65, 66, 67, 68, 69, 76, 77, 78, 79, 80, 81, 82, 70, 71, 72, 73, 74, 75] (by decide +kernel) (by decide +kernel)
set_option maxRecDepth 20000 in
theorem gX2_look_X2_drive : GoodIn wsX2_look (wsV RX2 92 RX2 yX2_drive wsX2_drive) := goodIn_app (goodIn_of _ (by decide +kernel)) ggX2_look_X2_drive
theorem dX2_look_0 : decode cX2_look 0 = .ok (.iload_n 3, 1) := by decide +kernel
theorem dX2_look_1 : decode cX2_look 1 = .ok (.aload_n 1, 1) := by decide +kernel
theorem dX2_look_2 : decode cX2_look 2 = .ok (.getfield 74, 3) := by decide +kernel
theorem dX2_look_5 : decode cX2_look 5 = .ok (.iconst 2, 1) := by decide +kernel
theorem dX2_look_6 : decode cX2_look 6 = .ok (.iaload, 1) := by decide +kernel
theorem dX2_look_7 : decode cX2_look 7 = .ok (.imul, 1) := by decide +kernel
theorem dX2_look_8 : decode cX2_look 8 = .ok (.istore 4, 2) := by decide +kernel
theorem dX2_look_10 : decode cX2_look 10 = .ok (.aload_n 0, 1) := by decide +kernel
theorem dX2_look_11 : decode cX2_look 11 = .ok (.aload_n 1, 1) := by decide +kernel
theorem dX2_look_12 : decode cX2_look 12 = .ok (.iload_n 2, 1) := by decide +kernel
theorem dX2_look_13 : decode cX2_look 13 = .ok (.iload 4, 2) := by decide +kernel
theorem dX2_look_15 : decode cX2_look 15 = .ok (.invokevirtual 77, 3) := by decide +kernel
theorem dX2_look_18 : decode cX2_look 18 = .ok (.istore 5, 2) := by decide +kernel
theorem dX2_look_20 : decode cX2_look 20 = .ok (.iload 5, 2) := by decide +kernel
theorem dX2_look_22 : decode cX2_look 22 = .ok (.bipush (-6), 2) := by decide +kernel
theorem dX2_look_24 : decode cX2_look 24 = .ok (.if_icmp .ne 21, 3) := by decide +kernel
theorem dX2_look_27 : decode cX2_look 27 = .ok (.aload_n 0, 1) := by decide +kernel
theorem dX2_look_28 : decode cX2_look 28 = .ok (.iload_n 2, 1) := by decide +kernel
theorem dX2_look_29 : decode cX2_look 29 = .ok (.aload_n 0, 1) := by decide +kernel
theorem dX2_look_30 : decode cX2_look 30 = .ok (.aload_n 1, 1) := by decide +kernel
theorem dX2_look_31 : decode cX2_look 31 = .ok (.iload_n 2, 1) := by decide +kernel
theorem dX2_look_32 : decode cX2_look 32 = .ok (.invokevirtual 81, 3) := by decide +kernel
theorem dX2_look_35 : decode cX2_look 35 = .ok (.bipush (-6), 2) := by decide +kernel
theorem dX2_look_37 : decode cX2_look 37 = .ok (.bipush (-6), 2) := by decide +kernel
theorem dX2_look_39 : decode cX2_look 39 = .ok (.bipush (-6), 2) := by decide +kernel
theorem dX2_look_41 : decode cX2_look 41 = .ok (.invokevirtual 85, 3) := by decide +kernel
theorem dX2_look_44 : decode cX2_look 44 = .ok (.return_, 1) := by decide +kernel
theorem dX2_look_45 : decode cX2_look 45 = .ok (.aload_n 0, 1) := by decide +kernel
theorem dX2_look_46 : decode cX2_look 46 = .ok (.aload_n 1, 1) := by decide +kernel
theorem dX2_look_47 : decode cX2_look 47 = .ok (.iload 5, 2) := by decide +kernel
theorem dX2_look_49 : decode cX2_look 49 = .ok (.iload_n 2, 1) := by decide +kernel
theorem dX2_look_50 : decode cX2_look 50 = .ok (.invokevirtual 89, 3) := by decide +kernel
theorem dX2_look_53 : decode cX2_look 53 = .ok (.aload_n 1, 1) := by decide +kernel
theorem dX2_look_54 : decode cX2_look 54 = .ok (.iload_n 2, 1) := by decide +kernel
theorem dX2_look_55 : decode cX2_look 55 = .ok (.iconst 4, 1) := by decide +kernel
theorem dX2_look_56 : decode cX2_look 56 = .ok (.invokevirtual 71, 3) := by decide +kernel
theorem dX2_look_59 : decode cX2_look 59 = .ok (.iload 4, 2) := by decide +kernel
theorem dX2_look_61 : decode cX2_look 61 = .ok (.iadd, 1) := by decide +kernel
theorem dX2_look_62 : decode cX2_look 62 = .ok (.invokestatic 60, 3) := by decide +kernel
theorem dX2_look_65 : decode cX2_look 65 = .ok (.istore 6, 2) := by decide +kernel
theorem dX2_look_67 : decode cX2_look 67 = .ok (.iload 6, 2) := by decide +kernel
theorem dX2_look_69 : decode cX2_look 69 = .ok (.aload_n 1, 1) := by decide +kernel
theorem dX2_look_70 : decode cX2_look 70 = .ok (.getfield 74, 3) := by decide +kernel
theorem dX2_look_73 : decode cX2_look 73 = .ok (.iconst 1, 1) := by decide +kernel
theorem dX2_look_74 : decode cX2_look 74 = .ok (.iaload, 1) := by decide +kernel
theorem dX2_look_75 : decode cX2_look 75 = .ok (.iadd, 1) := by decide +kernel
theorem dX2_look_76 : decode cX2_look 76 = .ok (.istore 7, 2) := by decide +kernel
theorem dX2_look_78 : decode cX2_look 78 = .ok (.aload_n 0, 1) := by decide +kernel
theorem dX2_look_79 : decode cX2_look 79 = .ok (.iload_n 2, 1) := by decide +kernel
theorem dX2_look_80 : decode cX2_look 80 = .ok (.iload_n 3, 1) := by decide +kernel
theorem dX2_look_81 : decode cX2_look 81 = .ok (.ifCond .ne 7, 3) := by decide +kernel
theorem dX2_look_84 : decode cX2_look 84 = .ok (.iconst 0, 1) := by decide +kernel
theorem dX2_look_85 : decode cX2_look 85 = .ok (.goto 4, 3) := by decide +kernel
theorem dX2_look_88 : decode cX2_look 88 = .ok (.iconst 1, 1) := by decide +kernel
theorem dX2_look_89 : decode cX2_look 89 = .ok (.iload 5, 2) := by decide +kernel
theorem dX2_look_91 : decode cX2_look 91 = .ok (.iload 6, 2) := by decide +kernel
theorem dX2_look_93 : decode cX2_look 93 = .ok (.iload 7, 2) := by decide +kernel
theorem dX2_look_95 : decode cX2_look 95 = .ok (.invokevirtual 85, 3) := by decide +kernel
theorem dX2_look_98 : decode cX2_look 98 = .ok (.aload_n 0, 1) := by decide +kernel
theorem dX2_look_99 : decode cX2_look 99 = .ok (.aload_n 1, 1) := by decide +kernel
theorem dX2_look_100 : decode cX2_look 100 = .ok (.iload 5, 2) := by decide +kernel
theorem dX2_look_102 : decode cX2_look 102 = .ok (.iload_n 2, 1) := by decide +kernel
theorem dX2_look_103 : decode cX2_look 103 = .ok (.invokevirtual 92, 3) := by decide +kernel
theorem dX2_look_106 : decode cX2_look 106 = .ok (.return_, 1) := by decide +kernel
set_option maxRecDepth 20000 in
theorem ggX2_firstToBegin_X3_visitFact : GoodIn wsX2_firstToBegin wsX3_visitFact := goodIn_r _ [10, 11, 51, 52, 53, 54, 55, 56] (by decide +kernel) (by decide +kernel)
set_option maxRecDepth 20000 in
theorem gX2_firstToBegin_X3_visitFact : GoodIn wsX2_firstToBegin (wsV RX2 71 RX3 yX3_visitFact wsX3_visitFact) := goodIn_app (goodIn_of _ (by decide +kernel)) ggX2_firstToBegin_X3_visitFact
set_option maxRecDepth 20000 in
theorem ggX2_firstToBegin_X2_hasSkill : GoodIn wsX2_firstToBegin wsX2_hasSkill := goodIn_r _ [16, 17, 18, 19, 9, 20, 21, 6, 7, 8, 10, 11, 51, 52, 53, 54, 55, 56] (by decide +kernel) (by decide +kernel)
set_option maxRecDepth 20000 in
theorem gX2_firstToBegin_X2_hasSkill : GoodIn wsX2_firstToBegin (wsV RX2 95 RX2 yX2_hasSkill wsX2_hasSkill) := goodIn_app (goodIn_of _ (by decide +kernel)) ggX2_firstToBegin_X2_hasSkill
set_option maxRecDepth 20000 in
theorem ggX2_firstToBegin_X2_hasParts : GoodIn wsX2_firstToBegin wsX2_hasParts := goodIn_r _ [25, 6, 7, 8, 9, 10, 11, 26, 27, 28, 15, 29, 30, 51, 52, 53, 54, 55, 56, 44, 45, 46, 47, 48, 49, 50] (by decide +kernel) (by decide +kernel)
set_option maxRecDepth 20000 in
theorem gX2_firstToBegin_X2_hasParts : GoodIn wsX2_firstToBegin (wsV RX2 99 RX2 yX2_hasParts wsX2_hasParts) := goodIn_app (goodIn_of _ (by decide +kernel)) ggX2_firstToBegin_X2_hasParts
set_option maxRecDepth 20000 in
theorem ggX2_firstToBegin_X2_comes : GoodIn wsX2_firstToBegin wsX2_comes := goodIn_r _ [34, 35, 36, 4, 37, 38, 6, 7, 8, 9, 10, 11, 39, 40, 41, 15, 42, 43, 51, 52, 53, 54, 55, 56, 44, 45, 46, 47, 48, 49, 50] (by decide +kernel) (by decide +kernel)
set_option maxRecDepth 20000 in
theorem gX2_firstToBegin_X2_comes : GoodIn wsX2_firstToBegin (wsV RX2 89 RX2 yX2_comes wsX2_comes) := goodIn_app (goodIn_of _ (by decide +kernel)) ggX2_firstToBegin_X2_comes
theorem dX2_firstToBegin_0 : decode cX2_firstToBegin 0 = .ok (.aload_n 1, 1) := by decide +kernel
theorem dX2_firstToBegin_1 : decode cX2_firstToBegin 1 = .ok (.iload_n 2, 1) := by decide +kernel
theorem dX2_firstToBegin_2 : decode cX2_firstToBegin 2 = .ok (.iconst 4, 1) := by decide +kernel
theorem dX2_firstToBegin_3 : decode cX2_firstToBegin 3 = .ok (.invokevirtual 71, 3) := by decide +kernel
theorem dX2_firstToBegin_6 : decode cX2_firstToBegin 6 = .ok (.iload_n 3, 1) := by decide +kernel
theorem dX2_firstToBegin_7 : decode cX2_firstToBegin 7 = .ok (.iadd, 1) := by decide +kernel
theorem dX2_firstToBegin_8 : decode cX2_firstToBegin 8 = .ok (.istore 4, 2) := by decide +kernel
theorem dX2_firstToBegin_10 : decode cX2_firstToBegin 10 = .ok (.aload_n 1, 1) := by decide +kernel
theorem dX2_firstToBegin_11 : decode cX2_firstToBegin 11 = .ok (.iload_n 2, 1) := by decide +kernel
theorem dX2_firstToBegin_12 : decode cX2_firstToBegin 12 = .ok (.iconst 5, 1) := by decide +kernel
theorem dX2_firstToBegin_13 : decode cX2_firstToBegin 13 = .ok (.invokevirtual 71, 3) := by decide +kernel
theorem dX2_firstToBegin_16 : decode cX2_firstToBegin 16 = .ok (.iload_n 3, 1) := by decide +kernel
theorem dX2_firstToBegin_17 : decode cX2_firstToBegin 17 = .ok (.iadd, 1) := by decide +kernel
theorem dX2_firstToBegin_18 : decode cX2_firstToBegin 18 = .ok (.istore 5, 2) := by decide +kernel
theorem dX2_firstToBegin_20 : decode cX2_firstToBegin 20 = .ok (.bipush (-6), 2) := by decide +kernel
theorem dX2_firstToBegin_22 : decode cX2_firstToBegin 22 = .ok (.istore 6, 2) := by decide +kernel
theorem dX2_firstToBegin_24 : decode cX2_firstToBegin 24 = .ok (.iconst 0, 1) := by decide +kernel
theorem dX2_firstToBegin_25 : decode cX2_firstToBegin 25 = .ok (.istore 7, 2) := by decide +kernel
theorem dX2_firstToBegin_27 : decode cX2_firstToBegin 27 = .ok (.iconst 0, 1) := by decide +kernel
theorem dX2_firstToBegin_28 : decode cX2_firstToBegin 28 = .ok (.istore 8, 2) := by decide +kernel
theorem dX2_firstToBegin_30 : decode cX2_firstToBegin 30 = .ok (.iload 8, 2) := by decide +kernel
theorem dX2_firstToBegin_32 : decode cX2_firstToBegin 32 = .ok (.aload_n 0, 1) := by decide +kernel
theorem dX2_firstToBegin_33 : decode cX2_firstToBegin 33 = .ok (.getfield 37, 3) := by decide +kernel
theorem dX2_firstToBegin_36 : decode cX2_firstToBegin 36 = .ok (.if_icmp .ge 75, 3) := by decide +kernel
theorem dX2_firstToBegin_39 : decode cX2_firstToBegin 39 = .ok (.aload_n 0, 1) := by decide +kernel
theorem dX2_firstToBegin_40 : decode cX2_firstToBegin 40 = .ok (.aload_n 1, 1) := by decide +kernel
theorem dX2_firstToBegin_41 : decode cX2_firstToBegin 41 = .ok (.iload 8, 2) := by decide +kernel
theorem dX2_firstToBegin_43 : decode cX2_firstToBegin 43 = .ok (.iload_n 2, 1) := by decide +kernel
theorem dX2_firstToBegin_44 : decode cX2_firstToBegin 44 = .ok (.invokevirtual 95, 3) := by decide +kernel
theorem dX2_firstToBegin_47 : decode cX2_firstToBegin 47 = .ok (.ifCond .eq 58, 3) := by decide +kernel
theorem dX2_firstToBegin_50 : decode cX2_firstToBegin 50 = .ok (.aload_n 0, 1) := by decide +kernel
theorem dX2_firstToBegin_51 : decode cX2_firstToBegin 51 = .ok (.aload_n 1, 1) := by decide +kernel
theorem dX2_firstToBegin_52 : decode cX2_firstToBegin 52 = .ok (.iload 8, 2) := by decide +kernel
theorem dX2_firstToBegin_54 : decode cX2_firstToBegin 54 = .ok (.iload_n 2, 1) := by decide +kernel
theorem dX2_firstToBegin_55 : decode cX2_firstToBegin 55 = .ok (.invokevirtual 99, 3) := by decide +kernel
theorem dX2_firstToBegin_58 : decode cX2_firstToBegin 58 = .ok (.ifCond .eq 47, 3) := by decide +kernel
theorem dX2_firstToBegin_61 : decode cX2_firstToBegin 61 = .ok (.aload_n 0, 1) := by decide +kernel
theorem dX2_firstToBegin_62 : decode cX2_firstToBegin 62 = .ok (.aload_n 1, 1) := by decide +kernel
theorem dX2_firstToBegin_63 : decode cX2_firstToBegin 63 = .ok (.iload 8, 2) := by decide +kernel
theorem dX2_firstToBegin_65 : decode cX2_firstToBegin 65 = .ok (.iload_n 2, 1) := by decide +kernel
theorem dX2_firstToBegin_66 : decode cX2_firstToBegin 66 = .ok (.invokevirtual 89, 3) := by decide +kernel
theorem dX2_firstToBegin_69 : decode cX2_firstToBegin 69 = .ok (.iload 4, 2) := by decide +kernel
theorem dX2_firstToBegin_71 : decode cX2_firstToBegin 71 = .ok (.invokestatic 60, 3) := by decide +kernel
theorem dX2_firstToBegin_74 : decode cX2_firstToBegin 74 = .ok (.istore 9, 2) := by decide +kernel
theorem dX2_firstToBegin_76 : decode cX2_firstToBegin 76 = .ok (.iload 9, 2) := by decide +kernel
theorem dX2_firstToBegin_78 : decode cX2_firstToBegin 78 = .ok (.iload 5, 2) := by decide +kernel
theorem dX2_firstToBegin_80 : decode cX2_firstToBegin 80 = .ok (.if_icmp .gt 25, 3) := by decide +kernel
theorem dX2_firstToBegin_83 : decode cX2_firstToBegin 83 = .ok (.iload 6, 2) := by decide +kernel
theorem dX2_firstToBegin_85 : decode cX2_firstToBegin 85 = .ok (.bipush (-6), 2) := by decide +kernel
theorem dX2_firstToBegin_87 : decode cX2_firstToBegin 87 = .ok (.if_icmp .eq 10, 3) := by decide +kernel
theorem dX2_firstToBegin_90 : decode cX2_firstToBegin 90 = .ok (.iload 9, 2) := by decide +kernel
theorem dX2_firstToBegin_92 : decode cX2_firstToBegin 92 = .ok (.iload 7, 2) := by decide +kernel
theorem dX2_firstToBegin_94 : decode cX2_firstToBegin 94 = .ok (.if_icmp .ge 11, 3) := by decide +kernel
theorem dX2_firstToBegin_97 : decode cX2_firstToBegin 97 = .ok (.iload 8, 2) := by decide +kernel
theorem dX2_firstToBegin_99 : decode cX2_firstToBegin 99 = .ok (.istore 6, 2) := by decide +kernel
theorem dX2_firstToBegin_101 : decode cX2_firstToBegin 101 = .ok (.iload 9, 2) := by decide +kernel
theorem dX2_firstToBegin_103 : decode cX2_firstToBegin 103 = .ok (.istore 7, 2) := by decide +kernel
theorem dX2_firstToBegin_105 : decode cX2_firstToBegin 105 = .ok (.iinc 8 1, 3) := by decide +kernel
theorem dX2_firstToBegin_108 : decode cX2_firstToBegin 108 = .ok (.goto (-78), 3) := by decide +kernel
theorem dX2_firstToBegin_111 : decode cX2_firstToBegin 111 = .ok (.iload 6, 2) := by decide +kernel
theorem dX2_firstToBegin_113 : decode cX2_firstToBegin 113 = .ok (.ireturn, 1) := by decide +kernel
set_option maxRecDepth 20000 in
theorem ggX2_hasSkill_X3_vanFact : GoodIn wsX2_hasSkill wsX3_vanFact := goodIn_r _ [5, 6, 12, 13, 14, 15, 16, 17] (by decide +kernel) (by decide +kernel)
set_option maxRecDepth 20000 in
theorem gX2_hasSkill_X3_vanFact : GoodIn wsX2_hasSkill (wsV RX2 65 RX3 yX3_vanFact wsX3_vanFact) := goodIn_app (goodIn_of _ (by decide +kernel)) ggX2_hasSkill_X3_vanFact
set_option maxRecDepth 20000 in
theorem ggX2_hasSkill_X3_visitFact : GoodIn wsX2_hasSkill wsX3_visitFact := goodIn_r _ [10, 11, 12, 13, 14, 15, 16, 17] (by decide +kernel) (by decide +kernel)
set_option maxRecDepth 20000 in
theorem gX2_hasSkill_X3_visitFact : GoodIn wsX2_hasSkill (wsV RX2 71 RX3 yX3_visitFact wsX3_visitFact) := goodIn_app (goodIn_of _ (by decide +kernel)) ggX2_hasSkill_X3_visitFact
theorem dX2_hasSkill_0 : decode cX2_hasSkill 0 = .ok (.aload_n 1, 1) := by decide +kernel
theorem dX2_hasSkill_1 : decode cX2_hasSkill 1 = .ok (.iload_n 2, 1) := by decide +kernel
theorem dX2_hasSkill_2 : decode cX2_hasSkill 2 = .ok (.iconst 1, 1) := by decide +kernel
theorem dX2_hasSkill_3 : decode cX2_hasSkill 3 = .ok (.invokevirtual 65, 3) := by decide +kernel
theorem dX2_hasSkill_6 : decode cX2_hasSkill 6 = .ok (.aload_n 1, 1) := by decide +kernel
theorem dX2_hasSkill_7 : decode cX2_hasSkill 7 = .ok (.iload_n 3, 1) := by decide +kernel
theorem dX2_hasSkill_8 : decode cX2_hasSkill 8 = .ok (.iconst 1, 1) := by decide +kernel
theorem dX2_hasSkill_9 : decode cX2_hasSkill 9 = .ok (.invokevirtual 71, 3) := by decide +kernel
theorem dX2_hasSkill_12 : decode cX2_hasSkill 12 = .ok (.ishr, 1) := by decide +kernel
theorem dX2_hasSkill_13 : decode cX2_hasSkill 13 = .ok (.iconst 1, 1) := by decide +kernel
theorem dX2_hasSkill_14 : decode cX2_hasSkill 14 = .ok (.iand, 1) := by decide +kernel
theorem dX2_hasSkill_15 : decode cX2_hasSkill 15 = .ok (.iconst 1, 1) := by decide +kernel
theorem dX2_hasSkill_16 : decode cX2_hasSkill 16 = .ok (.if_icmp .ne 7, 3) := by decide +kernel
theorem dX2_hasSkill_19 : decode cX2_hasSkill 19 = .ok (.iconst 1, 1) := by decide +kernel
theorem dX2_hasSkill_20 : decode cX2_hasSkill 20 = .ok (.goto 4, 3) := by decide +kernel
theorem dX2_hasSkill_23 : decode cX2_hasSkill 23 = .ok (.iconst 0, 1) := by decide +kernel
theorem dX2_hasSkill_24 : decode cX2_hasSkill 24 = .ok (.ireturn, 1) := by decide +kernel
set_option maxRecDepth 20000 in
theorem ggX2_hasParts_X3_visitFact : GoodIn wsX2_hasParts wsX3_visitFact := goodIn_r _ [5, 6, 13, 14, 15, 16, 17, 18] (by decide +kernel) (by decide +kernel)
set_option maxRecDepth 20000 in
theorem gX2_hasParts_X3_visitFact : GoodIn wsX2_hasParts (wsV RX2 71 RX3 yX3_visitFact wsX3_visitFact) := goodIn_app (goodIn_of _ (by decide +kernel)) ggX2_hasParts_X3_visitFact
set_option maxRecDepth 20000 in
theorem ggX2_hasParts_X2_partsLeft : GoodIn wsX2_hasParts wsX2_partsLeft := goodIn_r _ [11, 12, 19, 20, 21, 22, 23, 24, 25] (by decide +kernel) (by decide +kernel)
set_option maxRecDepth 20000 in
theorem gX2_hasParts_X2_partsLeft : GoodIn wsX2_hasParts (wsV RX2 102 RX2 yX2_partsLeft wsX2_partsLeft) := goodIn_app (goodIn_of _ (by decide +kernel)) ggX2_hasParts_X2_partsLeft
theorem dX2_hasParts_0 : decode cX2_hasParts 0 = .ok (.aload_n 0, 1) := by decide +kernel
theorem dX2_hasParts_1 : decode cX2_hasParts 1 = .ok (.iload_n 2, 1) := by decide +kernel
theorem dX2_hasParts_2 : decode cX2_hasParts 2 = .ok (.aload_n 1, 1) := by decide +kernel
theorem dX2_hasParts_3 : decode cX2_hasParts 3 = .ok (.iload_n 3, 1) := by decide +kernel
theorem dX2_hasParts_4 : decode cX2_hasParts 4 = .ok (.iconst 2, 1) := by decide +kernel
theorem dX2_hasParts_5 : decode cX2_hasParts 5 = .ok (.invokevirtual 71, 3) := by decide +kernel
theorem dX2_hasParts_8 : decode cX2_hasParts 8 = .ok (.invokevirtual 102, 3) := by decide +kernel
theorem dX2_hasParts_11 : decode cX2_hasParts 11 = .ok (.aload_n 1, 1) := by decide +kernel
theorem dX2_hasParts_12 : decode cX2_hasParts 12 = .ok (.iload_n 3, 1) := by decide +kernel
theorem dX2_hasParts_13 : decode cX2_hasParts 13 = .ok (.iconst 3, 1) := by decide +kernel
theorem dX2_hasParts_14 : decode cX2_hasParts 14 = .ok (.invokevirtual 71, 3) := by decide +kernel
theorem dX2_hasParts_17 : decode cX2_hasParts 17 = .ok (.if_icmp .lt 7, 3) := by decide +kernel
theorem dX2_hasParts_20 : decode cX2_hasParts 20 = .ok (.iconst 1, 1) := by decide +kernel
theorem dX2_hasParts_21 : decode cX2_hasParts 21 = .ok (.goto 4, 3) := by decide +kernel
theorem dX2_hasParts_24 : decode cX2_hasParts 24 = .ok (.iconst 0, 1) := by decide +kernel
theorem dX2_hasParts_25 : decode cX2_hasParts 25 = .ok (.ireturn, 1) := by decide +kernel
set_option maxRecDepth 20000 in
theorem ggX2_comes_X3_visitFact : GoodIn wsX2_comes wsX3_visitFact := goodIn_r _ [10, 11, 18, 19, 20, 21, 22, 23] (by decide +kernel) (by decide +kernel)
set_option maxRecDepth 20000 in
theorem gX2_comes_X3_visitFact : GoodIn wsX2_comes (wsV RX2 71 RX3 yX3_visitFact wsX3_visitFact) := goodIn_app (goodIn_of _ (by decide +kernel)) ggX2_comes_X3_visitFact
set_option maxRecDepth 20000 in
theorem ggX2_comes_X2_driveFact : GoodIn wsX2_comes wsX2_driveFact := goodIn_r _ [16, 17, 24, 25, 26, 27, 28, 29, 30] (by decide +kernel) (by decide +kernel)
set_option maxRecDepth 20000 in
theorem gX2_comes_X2_driveFact : GoodIn wsX2_comes (wsV RX2 57 RX2 yX2_driveFact wsX2_driveFact) := goodIn_app (goodIn_of _ (by decide +kernel)) ggX2_comes_X2_driveFact
theorem dX2_comes_0 : decode cX2_comes 0 = .ok (.aload_n 1, 1) := by decide +kernel
theorem dX2_comes_1 : decode cX2_comes 1 = .ok (.iload_n 3, 1) := by decide +kernel
theorem dX2_comes_2 : decode cX2_comes 2 = .ok (.iconst 0, 1) := by decide +kernel
theorem dX2_comes_3 : decode cX2_comes 3 = .ok (.invokevirtual 71, 3) := by decide +kernel
theorem dX2_comes_6 : decode cX2_comes 6 = .ok (.aload_n 0, 1) := by decide +kernel
theorem dX2_comes_7 : decode cX2_comes 7 = .ok (.iload_n 2, 1) := by decide +kernel
theorem dX2_comes_8 : decode cX2_comes 8 = .ok (.iconst 4, 1) := by decide +kernel
theorem dX2_comes_9 : decode cX2_comes 9 = .ok (.invokevirtual 57, 3) := by decide +kernel
theorem dX2_comes_12 : decode cX2_comes 12 = .ok (.isub, 1) := by decide +kernel
theorem dX2_comes_13 : decode cX2_comes 13 = .ok (.invokestatic 105, 3) := by decide +kernel
theorem dX2_comes_16 : decode cX2_comes 16 = .ok (.istore 4, 2) := by decide +kernel
theorem dX2_comes_18 : decode cX2_comes 18 = .ok (.aload_n 0, 1) := by decide +kernel
theorem dX2_comes_19 : decode cX2_comes 19 = .ok (.iload_n 2, 1) := by decide +kernel
theorem dX2_comes_20 : decode cX2_comes 20 = .ok (.iconst 3, 1) := by decide +kernel
theorem dX2_comes_21 : decode cX2_comes 21 = .ok (.invokevirtual 57, 3) := by decide +kernel
theorem dX2_comes_24 : decode cX2_comes 24 = .ok (.iload 4, 2) := by decide +kernel
theorem dX2_comes_26 : decode cX2_comes 26 = .ok (.aload_n 1, 1) := by decide +kernel
theorem dX2_comes_27 : decode cX2_comes 27 = .ok (.getfield 74, 3) := by decide +kernel
theorem dX2_comes_30 : decode cX2_comes 30 = .ok (.iconst 0, 1) := by decide +kernel
theorem dX2_comes_31 : decode cX2_comes 31 = .ok (.iaload, 1) := by decide +kernel
theorem dX2_comes_32 : decode cX2_comes 32 = .ok (.imul, 1) := by decide +kernel
theorem dX2_comes_33 : decode cX2_comes 33 = .ok (.iadd, 1) := by decide +kernel
theorem dX2_comes_34 : decode cX2_comes 34 = .ok (.ireturn, 1) := by decide +kernel
set_option maxRecDepth 20000 in
theorem ggX2_reason_X2_hasSkill : GoodIn wsX2_reason wsX2_hasSkill := goodIn_r _ [6, 7, 8, 9, 10, 11, 12, 13, 14, 15, 16, 17, 34, 35, 36, 37, 38, 39] (by decide +kernel) (by decide +kernel)
set_option maxRecDepth 20000 in
theorem gX2_reason_X2_hasSkill : GoodIn wsX2_reason (wsV RX2 95 RX2 yX2_hasSkill wsX2_hasSkill) := goodIn_app (goodIn_of _ (by decide +kernel)) ggX2_reason_X2_hasSkill
set_option maxRecDepth 20000 in
theorem ggX2_reason_X2_hasParts : GoodIn wsX2_reason wsX2_hasParts := goodIn_r _ [21, 13, 14, 15, 10, 16, 17, 22, 23, 24, 5, 25, 26, 34, 35, 36, 37, 38, 39, 27, 28, 29, 30, 31, 32, 33] (by decide +kernel) (by decide +kernel)
set_option maxRecDepth 20000 in
theorem gX2_reason_X2_hasParts : GoodIn wsX2_reason (wsV RX2 99 RX2 yX2_hasParts wsX2_hasParts) := goodIn_app (goodIn_of _ (by decide +kernel)) ggX2_reason_X2_hasParts
theorem dX2_reason_0 : decode cX2_reason 0 = .ok (.iconst 2, 1) := by decide +kernel
theorem dX2_reason_1 : decode cX2_reason 1 = .ok (.istore_n 3, 1) := by decide +kernel
theorem dX2_reason_2 : decode cX2_reason 2 = .ok (.iconst 0, 1) := by decide +kernel
theorem dX2_reason_3 : decode cX2_reason 3 = .ok (.istore 4, 2) := by decide +kernel
theorem dX2_reason_5 : decode cX2_reason 5 = .ok (.iload 4, 2) := by decide +kernel
theorem dX2_reason_7 : decode cX2_reason 7 = .ok (.aload_n 0, 1) := by decide +kernel
theorem dX2_reason_8 : decode cX2_reason 8 = .ok (.getfield 37, 3) := by decide +kernel
theorem dX2_reason_11 : decode cX2_reason 11 = .ok (.if_icmp .ge 35, 3) := by decide +kernel
theorem dX2_reason_14 : decode cX2_reason 14 = .ok (.aload_n 0, 1) := by decide +kernel
theorem dX2_reason_15 : decode cX2_reason 15 = .ok (.aload_n 1, 1) := by decide +kernel
theorem dX2_reason_16 : decode cX2_reason 16 = .ok (.iload 4, 2) := by decide +kernel
theorem dX2_reason_18 : decode cX2_reason 18 = .ok (.iload_n 2, 1) := by decide +kernel
theorem dX2_reason_19 : decode cX2_reason 19 = .ok (.invokevirtual 95, 3) := by decide +kernel
theorem dX2_reason_22 : decode cX2_reason 22 = .ok (.ifCond .eq 18, 3) := by decide +kernel
theorem dX2_reason_25 : decode cX2_reason 25 = .ok (.aload_n 0, 1) := by decide +kernel
theorem dX2_reason_26 : decode cX2_reason 26 = .ok (.aload_n 1, 1) := by decide +kernel
theorem dX2_reason_27 : decode cX2_reason 27 = .ok (.iload 4, 2) := by decide +kernel
theorem dX2_reason_29 : decode cX2_reason 29 = .ok (.iload_n 2, 1) := by decide +kernel
theorem dX2_reason_30 : decode cX2_reason 30 = .ok (.invokevirtual 99, 3) := by decide +kernel
theorem dX2_reason_33 : decode cX2_reason 33 = .ok (.ifCond .eq 5, 3) := by decide +kernel
theorem dX2_reason_36 : decode cX2_reason 36 = .ok (.iconst 4, 1) := by decide +kernel
theorem dX2_reason_37 : decode cX2_reason 37 = .ok (.ireturn, 1) := by decide +kernel
theorem dX2_reason_38 : decode cX2_reason 38 = .ok (.iconst 3, 1) := by decide +kernel
theorem dX2_reason_39 : decode cX2_reason 39 = .ok (.istore_n 3, 1) := by decide +kernel
theorem dX2_reason_40 : decode cX2_reason 40 = .ok (.iinc 4 1, 3) := by decide +kernel
theorem dX2_reason_43 : decode cX2_reason 43 = .ok (.goto (-38), 3) := by decide +kernel
theorem dX2_reason_46 : decode cX2_reason 46 = .ok (.iload_n 3, 1) := by decide +kernel
theorem dX2_reason_47 : decode cX2_reason 47 = .ok (.ireturn, 1) := by decide +kernel
theorem dX2_putOutcome_0 : decode cX2_putOutcome 0 = .ok (.iload_n 1, 1) := by decide +kernel
theorem dX2_putOutcome_1 : decode cX2_putOutcome 1 = .ok (.iconst 4, 1) := by decide +kernel
theorem dX2_putOutcome_2 : decode cX2_putOutcome 2 = .ok (.imul, 1) := by decide +kernel
theorem dX2_putOutcome_3 : decode cX2_putOutcome 3 = .ok (.istore 6, 2) := by decide +kernel
theorem dX2_putOutcome_5 : decode cX2_putOutcome 5 = .ok (.aload_n 0, 1) := by decide +kernel
theorem dX2_putOutcome_6 : decode cX2_putOutcome 6 = .ok (.getfield 15, 3) := by decide +kernel
theorem dX2_putOutcome_9 : decode cX2_putOutcome 9 = .ok (.iload 6, 2) := by decide +kernel
theorem dX2_putOutcome_11 : decode cX2_putOutcome 11 = .ok (.iconst 0, 1) := by decide +kernel
theorem dX2_putOutcome_12 : decode cX2_putOutcome 12 = .ok (.iadd, 1) := by decide +kernel
theorem dX2_putOutcome_13 : decode cX2_putOutcome 13 = .ok (.iload_n 2, 1) := by decide +kernel
theorem dX2_putOutcome_14 : decode cX2_putOutcome 14 = .ok (.iastore, 1) := by decide +kernel
theorem dX2_putOutcome_15 : decode cX2_putOutcome 15 = .ok (.aload_n 0, 1) := by decide +kernel
theorem dX2_putOutcome_16 : decode cX2_putOutcome 16 = .ok (.getfield 15, 3) := by decide +kernel
theorem dX2_putOutcome_19 : decode cX2_putOutcome 19 = .ok (.iload 6, 2) := by decide +kernel
theorem dX2_putOutcome_21 : decode cX2_putOutcome 21 = .ok (.iconst 1, 1) := by decide +kernel
theorem dX2_putOutcome_22 : decode cX2_putOutcome 22 = .ok (.iadd, 1) := by decide +kernel
theorem dX2_putOutcome_23 : decode cX2_putOutcome 23 = .ok (.iload_n 3, 1) := by decide +kernel
theorem dX2_putOutcome_24 : decode cX2_putOutcome 24 = .ok (.iastore, 1) := by decide +kernel
theorem dX2_putOutcome_25 : decode cX2_putOutcome 25 = .ok (.aload_n 0, 1) := by decide +kernel
theorem dX2_putOutcome_26 : decode cX2_putOutcome 26 = .ok (.getfield 15, 3) := by decide +kernel
theorem dX2_putOutcome_29 : decode cX2_putOutcome 29 = .ok (.iload 6, 2) := by decide +kernel
theorem dX2_putOutcome_31 : decode cX2_putOutcome 31 = .ok (.iconst 2, 1) := by decide +kernel
theorem dX2_putOutcome_32 : decode cX2_putOutcome 32 = .ok (.iadd, 1) := by decide +kernel
theorem dX2_putOutcome_33 : decode cX2_putOutcome 33 = .ok (.iload 4, 2) := by decide +kernel
theorem dX2_putOutcome_35 : decode cX2_putOutcome 35 = .ok (.iastore, 1) := by decide +kernel
theorem dX2_putOutcome_36 : decode cX2_putOutcome 36 = .ok (.aload_n 0, 1) := by decide +kernel
theorem dX2_putOutcome_37 : decode cX2_putOutcome 37 = .ok (.getfield 15, 3) := by decide +kernel
theorem dX2_putOutcome_40 : decode cX2_putOutcome 40 = .ok (.iload 6, 2) := by decide +kernel
theorem dX2_putOutcome_42 : decode cX2_putOutcome 42 = .ok (.iconst 3, 1) := by decide +kernel
theorem dX2_putOutcome_43 : decode cX2_putOutcome 43 = .ok (.iadd, 1) := by decide +kernel
theorem dX2_putOutcome_44 : decode cX2_putOutcome 44 = .ok (.iload 5, 2) := by decide +kernel
theorem dX2_putOutcome_46 : decode cX2_putOutcome 46 = .ok (.iastore, 1) := by decide +kernel
theorem dX2_putOutcome_47 : decode cX2_putOutcome 47 = .ok (.return_, 1) := by decide +kernel
set_option maxRecDepth 20000 in
theorem ggX2_drive_X2_comes : GoodIn wsX2_drive wsX2_comes := goodIn_r _ [7, 8, 9, 10, 11, 12, 13, 14, 15, 16, 17, 18, 19, 20, 21, 6, 22, 1, 40, 41, 42, 43, 44, 45, 33, 34, 35, 36, 37, 38, 39] (by decide +kernel) (by decide +kernel)
set_option maxRecDepth 20000 in
theorem gX2_drive_X2_comes : GoodIn wsX2_drive (wsV RX2 89 RX2 yX2_comes wsX2_comes) := goodIn_app (goodIn_of _ (by decide +kernel)) ggX2_drive_X2_comes
set_option maxRecDepth 20000 in
theorem ggX2_drive_X2_outcome : GoodIn wsX2_drive wsX2_outcome := goodIn_r _ [26, 27, 33, 34, 35, 36, 37, 38, 39] (by decide +kernel) (by decide +kernel)
set_option maxRecDepth 20000 in
theorem gX2_drive_X2_outcome : GoodIn wsX2_drive (wsV RX2 49 RX2 yX2_outcome wsX2_outcome) := goodIn_app (goodIn_of _ (by decide +kernel)) ggX2_drive_X2_outcome
set_option maxRecDepth 20000 in
theorem ggX2_drive_X2_addEvent : GoodIn wsX2_drive wsX2_addEvent := goodIn_r _ [31, 32, 1, 19, 20, 21, 6, 22, 33, 34, 35, 36, 37, 38, 39] (by decide +kernel) (by decide +kernel)
set_option maxRecDepth 20000 in
theorem gX2_drive_X2_addEvent : GoodIn wsX2_drive (wsV RX2 108 RX2 yX2_addEvent wsX2_addEvent) := goodIn_app (goodIn_of _ (by decide +kernel)) ggX2_drive_X2_addEvent
set_option maxRecDepth 20000 in
theorem ggX2_drive_X3_visitFact : GoodIn wsX2_drive wsX3_visitFact := goodIn_r _ [17, 18, 40, 41, 42, 43, 44, 45] (by decide +kernel) (by decide +kernel)
set_option maxRecDepth 20000 in
theorem gX2_drive_X3_visitFact : GoodIn wsX2_drive (wsV RX2 71 RX3 yX3_visitFact wsX3_visitFact) := goodIn_app (goodIn_of _ (by decide +kernel)) ggX2_drive_X3_visitFact
theorem dX2_drive_0 : decode cX2_drive 0 = .ok (.iload_n 2, 1) := by decide +kernel
theorem dX2_drive_1 : decode cX2_drive 1 = .ok (.bipush 6, 2) := by decide +kernel
theorem dX2_drive_3 : decode cX2_drive 3 = .ok (.imul, 1) := by decide +kernel
theorem dX2_drive_4 : decode cX2_drive 4 = .ok (.istore 4, 2) := by decide +kernel
theorem dX2_drive_6 : decode cX2_drive 6 = .ok (.aload_n 0, 1) := by decide +kernel
theorem dX2_drive_7 : decode cX2_drive 7 = .ok (.getfield 18, 3) := by decide +kernel
theorem dX2_drive_10 : decode cX2_drive 10 = .ok (.iload 4, 2) := by decide +kernel
theorem dX2_drive_12 : decode cX2_drive 12 = .ok (.iconst 3, 1) := by decide +kernel
theorem dX2_drive_13 : decode cX2_drive 13 = .ok (.iadd, 1) := by decide +kernel
theorem dX2_drive_14 : decode cX2_drive 14 = .ok (.iaload, 1) := by decide +kernel
theorem dX2_drive_15 : decode cX2_drive 15 = .ok (.istore 5, 2) := by decide +kernel
theorem dX2_drive_17 : decode cX2_drive 17 = .ok (.aload_n 0, 1) := by decide +kernel
theorem dX2_drive_18 : decode cX2_drive 18 = .ok (.aload_n 1, 1) := by decide +kernel
theorem dX2_drive_19 : decode cX2_drive 19 = .ok (.iload_n 2, 1) := by decide +kernel
theorem dX2_drive_20 : decode cX2_drive 20 = .ok (.iload_n 3, 1) := by decide +kernel
theorem dX2_drive_21 : decode cX2_drive 21 = .ok (.invokevirtual 89, 3) := by decide +kernel
theorem dX2_drive_24 : decode cX2_drive 24 = .ok (.istore 6, 2) := by decide +kernel
theorem dX2_drive_26 : decode cX2_drive 26 = .ok (.aload_n 0, 1) := by decide +kernel
theorem dX2_drive_27 : decode cX2_drive 27 = .ok (.iload_n 3, 1) := by decide +kernel
theorem dX2_drive_28 : decode cX2_drive 28 = .ok (.iconst 2, 1) := by decide +kernel
theorem dX2_drive_29 : decode cX2_drive 29 = .ok (.invokevirtual 49, 3) := by decide +kernel
theorem dX2_drive_32 : decode cX2_drive 32 = .ok (.istore 7, 2) := by decide +kernel
theorem dX2_drive_34 : decode cX2_drive 34 = .ok (.aload_n 0, 1) := by decide +kernel
theorem dX2_drive_35 : decode cX2_drive 35 = .ok (.iload_n 3, 1) := by decide +kernel
theorem dX2_drive_36 : decode cX2_drive 36 = .ok (.iconst 3, 1) := by decide +kernel
theorem dX2_drive_37 : decode cX2_drive 37 = .ok (.invokevirtual 49, 3) := by decide +kernel
theorem dX2_drive_40 : decode cX2_drive 40 = .ok (.istore 8, 2) := by decide +kernel
theorem dX2_drive_42 : decode cX2_drive 42 = .ok (.aload_n 0, 1) := by decide +kernel
theorem dX2_drive_43 : decode cX2_drive 43 = .ok (.iload_n 2, 1) := by decide +kernel
theorem dX2_drive_44 : decode cX2_drive 44 = .ok (.iconst 0, 1) := by decide +kernel
theorem dX2_drive_45 : decode cX2_drive 45 = .ok (.iload 5, 2) := by decide +kernel
theorem dX2_drive_47 : decode cX2_drive 47 = .ok (.iload 6, 2) := by decide +kernel
theorem dX2_drive_49 : decode cX2_drive 49 = .ok (.iload_n 3, 1) := by decide +kernel
theorem dX2_drive_50 : decode cX2_drive 50 = .ok (.invokevirtual 108, 3) := by decide +kernel
theorem dX2_drive_53 : decode cX2_drive 53 = .ok (.aload_n 0, 1) := by decide +kernel
theorem dX2_drive_54 : decode cX2_drive 54 = .ok (.iload_n 2, 1) := by decide +kernel
theorem dX2_drive_55 : decode cX2_drive 55 = .ok (.iconst 1, 1) := by decide +kernel
theorem dX2_drive_56 : decode cX2_drive 56 = .ok (.iload 6, 2) := by decide +kernel
theorem dX2_drive_58 : decode cX2_drive 58 = .ok (.iload 7, 2) := by decide +kernel
theorem dX2_drive_60 : decode cX2_drive 60 = .ok (.iload_n 3, 1) := by decide +kernel
theorem dX2_drive_61 : decode cX2_drive 61 = .ok (.invokevirtual 108, 3) := by decide +kernel
theorem dX2_drive_64 : decode cX2_drive 64 = .ok (.aload_n 0, 1) := by decide +kernel
theorem dX2_drive_65 : decode cX2_drive 65 = .ok (.iload_n 2, 1) := by decide +kernel
theorem dX2_drive_66 : decode cX2_drive 66 = .ok (.iconst 2, 1) := by decide +kernel
theorem dX2_drive_67 : decode cX2_drive 67 = .ok (.iload 7, 2) := by decide +kernel
theorem dX2_drive_69 : decode cX2_drive 69 = .ok (.iload 8, 2) := by decide +kernel
theorem dX2_drive_71 : decode cX2_drive 71 = .ok (.iload_n 3, 1) := by decide +kernel
theorem dX2_drive_72 : decode cX2_drive 72 = .ok (.invokevirtual 108, 3) := by decide +kernel
theorem dX2_drive_75 : decode cX2_drive 75 = .ok (.aload_n 0, 1) := by decide +kernel
theorem dX2_drive_76 : decode cX2_drive 76 = .ok (.getfield 18, 3) := by decide +kernel
theorem dX2_drive_79 : decode cX2_drive 79 = .ok (.iload 4, 2) := by decide +kernel
theorem dX2_drive_81 : decode cX2_drive 81 = .ok (.iconst 0, 1) := by decide +kernel
theorem dX2_drive_82 : decode cX2_drive 82 = .ok (.iadd, 1) := by decide +kernel
theorem dX2_drive_83 : decode cX2_drive 83 = .ok (.dup2, 1) := by decide +kernel
theorem dX2_drive_84 : decode cX2_drive 84 = .ok (.iaload, 1) := by decide +kernel
theorem dX2_drive_85 : decode cX2_drive 85 = .ok (.iconst 1, 1) := by decide +kernel
theorem dX2_drive_86 : decode cX2_drive 86 = .ok (.iload_n 3, 1) := by decide +kernel
theorem dX2_drive_87 : decode cX2_drive 87 = .ok (.ishl, 1) := by decide +kernel
theorem dX2_drive_88 : decode cX2_drive 88 = .ok (.ior, 1) := by decide +kernel
theorem dX2_drive_89 : decode cX2_drive 89 = .ok (.iastore, 1) := by decide +kernel
theorem dX2_drive_90 : decode cX2_drive 90 = .ok (.aload_n 0, 1) := by decide +kernel
theorem dX2_drive_91 : decode cX2_drive 91 = .ok (.getfield 18, 3) := by decide +kernel
theorem dX2_drive_94 : decode cX2_drive 94 = .ok (.iload 4, 2) := by decide +kernel
theorem dX2_drive_96 : decode cX2_drive 96 = .ok (.iconst 1, 1) := by decide +kernel
theorem dX2_drive_97 : decode cX2_drive 97 = .ok (.iadd, 1) := by decide +kernel
theorem dX2_drive_98 : decode cX2_drive 98 = .ok (.dup2, 1) := by decide +kernel
theorem dX2_drive_99 : decode cX2_drive 99 = .ok (.iaload, 1) := by decide +kernel
theorem dX2_drive_100 : decode cX2_drive 100 = .ok (.iload 6, 2) := by decide +kernel
theorem dX2_drive_102 : decode cX2_drive 102 = .ok (.iload 5, 2) := by decide +kernel
theorem dX2_drive_104 : decode cX2_drive 104 = .ok (.isub, 1) := by decide +kernel
theorem dX2_drive_105 : decode cX2_drive 105 = .ok (.iadd, 1) := by decide +kernel
theorem dX2_drive_106 : decode cX2_drive 106 = .ok (.iastore, 1) := by decide +kernel
theorem dX2_drive_107 : decode cX2_drive 107 = .ok (.aload_n 0, 1) := by decide +kernel
theorem dX2_drive_108 : decode cX2_drive 108 = .ok (.getfield 18, 3) := by decide +kernel
theorem dX2_drive_111 : decode cX2_drive 111 = .ok (.iload 4, 2) := by decide +kernel
theorem dX2_drive_113 : decode cX2_drive 113 = .ok (.iconst 2, 1) := by decide +kernel
theorem dX2_drive_114 : decode cX2_drive 114 = .ok (.iadd, 1) := by decide +kernel
theorem dX2_drive_115 : decode cX2_drive 115 = .ok (.dup2, 1) := by decide +kernel
theorem dX2_drive_116 : decode cX2_drive 116 = .ok (.iaload, 1) := by decide +kernel
theorem dX2_drive_117 : decode cX2_drive 117 = .ok (.iload 7, 2) := by decide +kernel
theorem dX2_drive_119 : decode cX2_drive 119 = .ok (.iload 6, 2) := by decide +kernel
theorem dX2_drive_121 : decode cX2_drive 121 = .ok (.isub, 1) := by decide +kernel
theorem dX2_drive_122 : decode cX2_drive 122 = .ok (.iadd, 1) := by decide +kernel
theorem dX2_drive_123 : decode cX2_drive 123 = .ok (.iastore, 1) := by decide +kernel
theorem dX2_drive_124 : decode cX2_drive 124 = .ok (.aload_n 0, 1) := by decide +kernel
theorem dX2_drive_125 : decode cX2_drive 125 = .ok (.getfield 18, 3) := by decide +kernel
theorem dX2_drive_128 : decode cX2_drive 128 = .ok (.iload 4, 2) := by decide +kernel
theorem dX2_drive_130 : decode cX2_drive 130 = .ok (.iconst 3, 1) := by decide +kernel
theorem dX2_drive_131 : decode cX2_drive 131 = .ok (.iadd, 1) := by decide +kernel
theorem dX2_drive_132 : decode cX2_drive 132 = .ok (.iload 8, 2) := by decide +kernel
theorem dX2_drive_134 : decode cX2_drive 134 = .ok (.iastore, 1) := by decide +kernel
theorem dX2_drive_135 : decode cX2_drive 135 = .ok (.aload_n 0, 1) := by decide +kernel
theorem dX2_drive_136 : decode cX2_drive 136 = .ok (.getfield 18, 3) := by decide +kernel
theorem dX2_drive_139 : decode cX2_drive 139 = .ok (.iload 4, 2) := by decide +kernel
theorem dX2_drive_141 : decode cX2_drive 141 = .ok (.iconst 4, 1) := by decide +kernel
theorem dX2_drive_142 : decode cX2_drive 142 = .ok (.iadd, 1) := by decide +kernel
theorem dX2_drive_143 : decode cX2_drive 143 = .ok (.aload_n 1, 1) := by decide +kernel
theorem dX2_drive_144 : decode cX2_drive 144 = .ok (.iload_n 3, 1) := by decide +kernel
theorem dX2_drive_145 : decode cX2_drive 145 = .ok (.iconst 0, 1) := by decide +kernel
theorem dX2_drive_146 : decode cX2_drive 146 = .ok (.invokevirtual 71, 3) := by decide +kernel
theorem dX2_drive_149 : decode cX2_drive 149 = .ok (.iastore, 1) := by decide +kernel
theorem dX2_drive_150 : decode cX2_drive 150 = .ok (.aload_n 0, 1) := by decide +kernel
theorem dX2_drive_151 : decode cX2_drive 151 = .ok (.getfield 21, 3) := by decide +kernel
theorem dX2_drive_154 : decode cX2_drive 154 = .ok (.iload_n 2, 1) := by decide +kernel
theorem dX2_drive_155 : decode cX2_drive 155 = .ok (.iconst 5, 1) := by decide +kernel
theorem dX2_drive_156 : decode cX2_drive 156 = .ok (.imul, 1) := by decide +kernel
theorem dX2_drive_157 : decode cX2_drive 157 = .ok (.aload_n 1, 1) := by decide +kernel
theorem dX2_drive_158 : decode cX2_drive 158 = .ok (.iload_n 3, 1) := by decide +kernel
theorem dX2_drive_159 : decode cX2_drive 159 = .ok (.iconst 2, 1) := by decide +kernel
theorem dX2_drive_160 : decode cX2_drive 160 = .ok (.invokevirtual 71, 3) := by decide +kernel
theorem dX2_drive_163 : decode cX2_drive 163 = .ok (.iadd, 1) := by decide +kernel
theorem dX2_drive_164 : decode cX2_drive 164 = .ok (.dup2, 1) := by decide +kernel
theorem dX2_drive_165 : decode cX2_drive 165 = .ok (.iaload, 1) := by decide +kernel
theorem dX2_drive_166 : decode cX2_drive 166 = .ok (.aload_n 1, 1) := by decide +kernel
theorem dX2_drive_167 : decode cX2_drive 167 = .ok (.iload_n 3, 1) := by decide +kernel
theorem dX2_drive_168 : decode cX2_drive 168 = .ok (.iconst 3, 1) := by decide +kernel
theorem dX2_drive_169 : decode cX2_drive 169 = .ok (.invokevirtual 71, 3) := by decide +kernel
theorem dX2_drive_172 : decode cX2_drive 172 = .ok (.isub, 1) := by decide +kernel
theorem dX2_drive_173 : decode cX2_drive 173 = .ok (.iastore, 1) := by decide +kernel
theorem dX2_drive_174 : decode cX2_drive 174 = .ok (.return_, 1) := by decide +kernel
set_option maxRecDepth 20000 in
theorem ggX2_addEvent_X2_driveFact : GoodIn wsX2_addEvent wsX2_driveFact := goodIn_r _ [7, 2, 8, 9, 10, 11, 12, 13, 14] (by decide +kernel) (by decide +kernel)
set_option maxRecDepth 20000 in
theorem gX2_addEvent_X2_driveFact : GoodIn wsX2_addEvent (wsV RX2 57 RX2 yX2_driveFact wsX2_driveFact) := goodIn_app (goodIn_of _ (by decide +kernel)) ggX2_addEvent_X2_driveFact
theorem dX2_addEvent_0 : decode cX2_addEvent 0 = .ok (.aload_n 0, 1) := by decide +kernel
theorem dX2_addEvent_1 : decode cX2_addEvent 1 = .ok (.iload_n 1, 1) := by decide +kernel
theorem dX2_addEvent_2 : decode cX2_addEvent 2 = .ok (.iconst 5, 1) := by decide +kernel
theorem dX2_addEvent_3 : decode cX2_addEvent 3 = .ok (.invokevirtual 57, 3) := by decide +kernel
theorem dX2_addEvent_6 : decode cX2_addEvent 6 = .ok (.istore 6, 2) := by decide +kernel
theorem dX2_addEvent_8 : decode cX2_addEvent 8 = .ok (.iload_n 3, 1) := by decide +kernel
theorem dX2_addEvent_9 : decode cX2_addEvent 9 = .ok (.iload 4, 2) := by decide +kernel
theorem dX2_addEvent_11 : decode cX2_addEvent 11 = .ok (.if_icmp .eq 10, 3) := by decide +kernel
theorem dX2_addEvent_14 : decode cX2_addEvent 14 = .ok (.iload 6, 2) := by decide +kernel
theorem dX2_addEvent_16 : decode cX2_addEvent 16 = .ok (.bipush 63, 2) := by decide +kernel
theorem dX2_addEvent_18 : decode cX2_addEvent 18 = .ok (.if_icmp .lt 4, 3) := by decide +kernel
theorem dX2_addEvent_21 : decode cX2_addEvent 21 = .ok (.return_, 1) := by decide +kernel
theorem dX2_addEvent_22 : decode cX2_addEvent 22 = .ok (.iload_n 1, 1) := by decide +kernel
theorem dX2_addEvent_23 : decode cX2_addEvent 23 = .ok (.bipush 63, 2) := by decide +kernel
theorem dX2_addEvent_25 : decode cX2_addEvent 25 = .ok (.imul, 1) := by decide +kernel
theorem dX2_addEvent_26 : decode cX2_addEvent 26 = .ok (.iload 6, 2) := by decide +kernel
theorem dX2_addEvent_28 : decode cX2_addEvent 28 = .ok (.iadd, 1) := by decide +kernel
theorem dX2_addEvent_29 : decode cX2_addEvent 29 = .ok (.iconst 4, 1) := by decide +kernel
theorem dX2_addEvent_30 : decode cX2_addEvent 30 = .ok (.imul, 1) := by decide +kernel
theorem dX2_addEvent_31 : decode cX2_addEvent 31 = .ok (.istore 7, 2) := by decide +kernel
theorem dX2_addEvent_33 : decode cX2_addEvent 33 = .ok (.aload_n 0, 1) := by decide +kernel
theorem dX2_addEvent_34 : decode cX2_addEvent 34 = .ok (.getfield 24, 3) := by decide +kernel
theorem dX2_addEvent_37 : decode cX2_addEvent 37 = .ok (.iload 7, 2) := by decide +kernel
theorem dX2_addEvent_39 : decode cX2_addEvent 39 = .ok (.iconst 0, 1) := by decide +kernel
theorem dX2_addEvent_40 : decode cX2_addEvent 40 = .ok (.iadd, 1) := by decide +kernel
theorem dX2_addEvent_41 : decode cX2_addEvent 41 = .ok (.iload_n 2, 1) := by decide +kernel
theorem dX2_addEvent_42 : decode cX2_addEvent 42 = .ok (.iastore, 1) := by decide +kernel
theorem dX2_addEvent_43 : decode cX2_addEvent 43 = .ok (.aload_n 0, 1) := by decide +kernel
theorem dX2_addEvent_44 : decode cX2_addEvent 44 = .ok (.getfield 24, 3) := by decide +kernel
theorem dX2_addEvent_47 : decode cX2_addEvent 47 = .ok (.iload 7, 2) := by decide +kernel
theorem dX2_addEvent_49 : decode cX2_addEvent 49 = .ok (.iconst 1, 1) := by decide +kernel
theorem dX2_addEvent_50 : decode cX2_addEvent 50 = .ok (.iadd, 1) := by decide +kernel
theorem dX2_addEvent_51 : decode cX2_addEvent 51 = .ok (.iload_n 3, 1) := by decide +kernel
theorem dX2_addEvent_52 : decode cX2_addEvent 52 = .ok (.iastore, 1) := by decide +kernel
theorem dX2_addEvent_53 : decode cX2_addEvent 53 = .ok (.aload_n 0, 1) := by decide +kernel
theorem dX2_addEvent_54 : decode cX2_addEvent 54 = .ok (.getfield 24, 3) := by decide +kernel
theorem dX2_addEvent_57 : decode cX2_addEvent 57 = .ok (.iload 7, 2) := by decide +kernel
theorem dX2_addEvent_59 : decode cX2_addEvent 59 = .ok (.iconst 2, 1) := by decide +kernel
theorem dX2_addEvent_60 : decode cX2_addEvent 60 = .ok (.iadd, 1) := by decide +kernel
theorem dX2_addEvent_61 : decode cX2_addEvent 61 = .ok (.iload 4, 2) := by decide +kernel
theorem dX2_addEvent_63 : decode cX2_addEvent 63 = .ok (.iastore, 1) := by decide +kernel
theorem dX2_addEvent_64 : decode cX2_addEvent 64 = .ok (.aload_n 0, 1) := by decide +kernel
theorem dX2_addEvent_65 : decode cX2_addEvent 65 = .ok (.getfield 24, 3) := by decide +kernel
theorem dX2_addEvent_68 : decode cX2_addEvent 68 = .ok (.iload 7, 2) := by decide +kernel
theorem dX2_addEvent_70 : decode cX2_addEvent 70 = .ok (.iconst 3, 1) := by decide +kernel
theorem dX2_addEvent_71 : decode cX2_addEvent 71 = .ok (.iadd, 1) := by decide +kernel
theorem dX2_addEvent_72 : decode cX2_addEvent 72 = .ok (.iload 5, 2) := by decide +kernel
theorem dX2_addEvent_74 : decode cX2_addEvent 74 = .ok (.iastore, 1) := by decide +kernel
theorem dX2_addEvent_75 : decode cX2_addEvent 75 = .ok (.aload_n 0, 1) := by decide +kernel
theorem dX2_addEvent_76 : decode cX2_addEvent 76 = .ok (.getfield 18, 3) := by decide +kernel
theorem dX2_addEvent_79 : decode cX2_addEvent 79 = .ok (.iload_n 1, 1) := by decide +kernel
theorem dX2_addEvent_80 : decode cX2_addEvent 80 = .ok (.bipush 6, 2) := by decide +kernel
theorem dX2_addEvent_82 : decode cX2_addEvent 82 = .ok (.imul, 1) := by decide +kernel
theorem dX2_addEvent_83 : decode cX2_addEvent 83 = .ok (.iconst 5, 1) := by decide +kernel
theorem dX2_addEvent_84 : decode cX2_addEvent 84 = .ok (.iadd, 1) := by decide +kernel
theorem dX2_addEvent_85 : decode cX2_addEvent 85 = .ok (.iload 6, 2) := by decide +kernel
theorem dX2_addEvent_87 : decode cX2_addEvent 87 = .ok (.iconst 1, 1) := by decide +kernel
theorem dX2_addEvent_88 : decode cX2_addEvent 88 = .ok (.iadd, 1) := by decide +kernel
theorem dX2_addEvent_89 : decode cX2_addEvent 89 = .ok (.iastore, 1) := by decide +kernel
theorem dX2_addEvent_90 : decode cX2_addEvent 90 = .ok (.return_, 1) := by decide +kernel
