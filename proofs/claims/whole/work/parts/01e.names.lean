theorem dX5_init_0 : decode cX5_init 0 = .ok (.aload_n 0, 1) := by decide +kernel
theorem dX5_init_1 : decode cX5_init 1 = .ok (.invokespecial 1, 3) := by decide +kernel
theorem dX5_init_4 : decode cX5_init 4 = .ok (.aload_n 0, 1) := by decide +kernel
theorem dX5_init_5 : decode cX5_init 5 = .ok (.sipush 160, 3) := by decide +kernel
theorem dX5_init_8 : decode cX5_init 8 = .ok (.newarray .int, 2) := by decide +kernel
theorem dX5_init_10 : decode cX5_init 10 = .ok (.putfield 7, 3) := by decide +kernel
theorem dX5_init_13 : decode cX5_init 13 = .ok (.aload_n 0, 1) := by decide +kernel
theorem dX5_init_14 : decode cX5_init 14 = .ok (.sipush 918, 3) := by decide +kernel
theorem dX5_init_17 : decode cX5_init 17 = .ok (.newarray .int, 2) := by decide +kernel
theorem dX5_init_19 : decode cX5_init 19 = .ok (.putfield 13, 3) := by decide +kernel
theorem dX5_init_22 : decode cX5_init 22 = .ok (.aload_n 0, 1) := by decide +kernel
theorem dX5_init_23 : decode cX5_init 23 = .ok (.sipush 306, 3) := by decide +kernel
theorem dX5_init_26 : decode cX5_init 26 = .ok (.newarray .int, 2) := by decide +kernel
theorem dX5_init_28 : decode cX5_init 28 = .ok (.putfield 16, 3) := by decide +kernel
theorem dX5_init_31 : decode cX5_init 31 = .ok (.aload_n 0, 1) := by decide +kernel
theorem dX5_init_32 : decode cX5_init 32 = .ok (.iconst 2, 1) := by decide +kernel
theorem dX5_init_33 : decode cX5_init 33 = .ok (.newarray .boolean, 2) := by decide +kernel
theorem dX5_init_35 : decode cX5_init 35 = .ok (.putfield 19, 3) := by decide +kernel
theorem dX5_init_38 : decode cX5_init 38 = .ok (.aload_n 0, 1) := by decide +kernel
theorem dX5_init_39 : decode cX5_init 39 = .ok (.bipush 80, 2) := by decide +kernel
theorem dX5_init_41 : decode cX5_init 41 = .ok (.newarray .int, 2) := by decide +kernel
theorem dX5_init_43 : decode cX5_init 43 = .ok (.putfield 23, 3) := by decide +kernel
theorem dX5_init_46 : decode cX5_init 46 = .ok (.aload_n 0, 1) := by decide +kernel
theorem dX5_init_47 : decode cX5_init 47 = .ok (.bipush 21, 2) := by decide +kernel
theorem dX5_init_49 : decode cX5_init 49 = .ok (.newarray .int, 2) := by decide +kernel
theorem dX5_init_51 : decode cX5_init 51 = .ok (.putfield 26, 3) := by decide +kernel
theorem dX5_init_54 : decode cX5_init 54 = .ok (.aload_n 0, 1) := by decide +kernel
theorem dX5_init_55 : decode cX5_init 55 = .ok (.bipush 21, 2) := by decide +kernel
theorem dX5_init_57 : decode cX5_init 57 = .ok (.newarray .int, 2) := by decide +kernel
theorem dX5_init_59 : decode cX5_init 59 = .ok (.putfield 29, 3) := by decide +kernel
theorem dX5_init_62 : decode cX5_init 62 = .ok (.aload_n 0, 1) := by decide +kernel
theorem dX5_init_63 : decode cX5_init 63 = .ok (.bipush 21, 2) := by decide +kernel
theorem dX5_init_65 : decode cX5_init 65 = .ok (.newarray .int, 2) := by decide +kernel
theorem dX5_init_67 : decode cX5_init 67 = .ok (.putfield 32, 3) := by decide +kernel
theorem dX5_init_70 : decode cX5_init 70 = .ok (.aload_n 0, 1) := by decide +kernel
theorem dX5_init_71 : decode cX5_init 71 = .ok (.bipush 21, 2) := by decide +kernel
theorem dX5_init_73 : decode cX5_init 73 = .ok (.newarray .int, 2) := by decide +kernel
theorem dX5_init_75 : decode cX5_init 75 = .ok (.putfield 35, 3) := by decide +kernel
theorem dX5_init_78 : decode cX5_init 78 = .ok (.aload_n 0, 1) := by decide +kernel
theorem dX5_init_79 : decode cX5_init 79 = .ok (.bipush 21, 2) := by decide +kernel
theorem dX5_init_81 : decode cX5_init 81 = .ok (.newarray .int, 2) := by decide +kernel
theorem dX5_init_83 : decode cX5_init 83 = .ok (.putfield 38, 3) := by decide +kernel
theorem dX5_init_86 : decode cX5_init 86 = .ok (.aload_n 0, 1) := by decide +kernel
theorem dX5_init_87 : decode cX5_init 87 = .ok (.bipush 21, 2) := by decide +kernel
theorem dX5_init_89 : decode cX5_init 89 = .ok (.newarray .int, 2) := by decide +kernel
theorem dX5_init_91 : decode cX5_init 91 = .ok (.putfield 41, 3) := by decide +kernel
theorem dX5_init_94 : decode cX5_init 94 = .ok (.aload_n 0, 1) := by decide +kernel
theorem dX5_init_95 : decode cX5_init 95 = .ok (.iconst 4, 1) := by decide +kernel
theorem dX5_init_96 : decode cX5_init 96 = .ok (.newarray .int, 2) := by decide +kernel
theorem dX5_init_98 : decode cX5_init 98 = .ok (.putfield 44, 3) := by decide +kernel
theorem dX5_init_101 : decode cX5_init 101 = .ok (.aload_n 0, 1) := by decide +kernel
theorem dX5_init_102 : decode cX5_init 102 = .ok (.iconst 4, 1) := by decide +kernel
theorem dX5_init_103 : decode cX5_init 103 = .ok (.newarray .int, 2) := by decide +kernel
theorem dX5_init_105 : decode cX5_init 105 = .ok (.putfield 47, 3) := by decide +kernel
theorem dX5_init_108 : decode cX5_init 108 = .ok (.aload_n 0, 1) := by decide +kernel
theorem dX5_init_109 : decode cX5_init 109 = .ok (.bipush 20, 2) := by decide +kernel
theorem dX5_init_111 : decode cX5_init 111 = .ok (.newarray .int, 2) := by decide +kernel
theorem dX5_init_113 : decode cX5_init 113 = .ok (.putfield 50, 3) := by decide +kernel
theorem dX5_init_116 : decode cX5_init 116 = .ok (.aload_n 0, 1) := by decide +kernel
theorem dX5_init_117 : decode cX5_init 117 = .ok (.iconst 4, 1) := by decide +kernel
theorem dX5_init_118 : decode cX5_init 118 = .ok (.newarray .int, 2) := by decide +kernel
theorem dX5_init_120 : decode cX5_init 120 = .ok (.putfield 53, 3) := by decide +kernel
theorem dX5_init_123 : decode cX5_init 123 = .ok (.aload_n 0, 1) := by decide +kernel
theorem dX5_init_124 : decode cX5_init 124 = .ok (.iconst 4, 1) := by decide +kernel
theorem dX5_init_125 : decode cX5_init 125 = .ok (.newarray .int, 2) := by decide +kernel
theorem dX5_init_127 : decode cX5_init 127 = .ok (.putfield 56, 3) := by decide +kernel
theorem dX5_init_130 : decode cX5_init 130 = .ok (.aload_n 0, 1) := by decide +kernel
theorem dX5_init_131 : decode cX5_init 131 = .ok (.sipush 294, 3) := by decide +kernel
theorem dX5_init_134 : decode cX5_init 134 = .ok (.newarray .int, 2) := by decide +kernel
theorem dX5_init_136 : decode cX5_init 136 = .ok (.putfield 59, 3) := by decide +kernel
theorem dX5_init_139 : decode cX5_init 139 = .ok (.aload_n 0, 1) := by decide +kernel
theorem dX5_init_140 : decode cX5_init 140 = .ok (.iconst 0, 1) := by decide +kernel
theorem dX5_init_141 : decode cX5_init 141 = .ok (.putfield 62, 3) := by decide +kernel
theorem dX5_init_144 : decode cX5_init 144 = .ok (.aload_n 0, 1) := by decide +kernel
theorem dX5_init_145 : decode cX5_init 145 = .ok (.getfield 7, 3) := by decide +kernel
theorem dX5_init_148 : decode cX5_init 148 = .ok (.iconst 0, 1) := by decide +kernel
theorem dX5_init_149 : decode cX5_init 149 = .ok (.iconst 2, 1) := by decide +kernel
theorem dX5_init_150 : decode cX5_init 150 = .ok (.iastore, 1) := by decide +kernel
theorem dX5_init_151 : decode cX5_init 151 = .ok (.aload_n 0, 1) := by decide +kernel
theorem dX5_init_152 : decode cX5_init 152 = .ok (.getfield 7, 3) := by decide +kernel
theorem dX5_init_155 : decode cX5_init 155 = .ok (.iconst 1, 1) := by decide +kernel
theorem dX5_init_156 : decode cX5_init 156 = .ok (.bipush 30, 2) := by decide +kernel
theorem dX5_init_158 : decode cX5_init 158 = .ok (.iastore, 1) := by decide +kernel
theorem dX5_init_159 : decode cX5_init 159 = .ok (.aload_n 0, 1) := by decide +kernel
theorem dX5_init_160 : decode cX5_init 160 = .ok (.getfield 7, 3) := by decide +kernel
theorem dX5_init_163 : decode cX5_init 163 = .ok (.iconst 2, 1) := by decide +kernel
theorem dX5_init_164 : decode cX5_init 164 = .ok (.bipush 120, 2) := by decide +kernel
theorem dX5_init_166 : decode cX5_init 166 = .ok (.iastore, 1) := by decide +kernel
theorem dX5_init_167 : decode cX5_init 167 = .ok (.return_, 1) := by decide +kernel
theorem dX5_in_0 : decode cX5_in 0 = .ok (.iload_n 0, 1) := by decide +kernel
theorem dX5_in_1 : decode cX5_in 1 = .ok (.iload_n 1, 1) := by decide +kernel
theorem dX5_in_2 : decode cX5_in 2 = .ok (.if_icmp .lt 12, 3) := by decide +kernel
theorem dX5_in_5 : decode cX5_in 5 = .ok (.iload_n 0, 1) := by decide +kernel
theorem dX5_in_6 : decode cX5_in 6 = .ok (.iload_n 2, 1) := by decide +kernel
theorem dX5_in_7 : decode cX5_in 7 = .ok (.if_icmp .gt 7, 3) := by decide +kernel
theorem dX5_in_10 : decode cX5_in 10 = .ok (.iconst 1, 1) := by decide +kernel
theorem dX5_in_11 : decode cX5_in 11 = .ok (.goto 4, 3) := by decide +kernel
theorem dX5_in_14 : decode cX5_in 14 = .ok (.iconst 0, 1) := by decide +kernel
theorem dX5_in_15 : decode cX5_in 15 = .ok (.ireturn, 1) := by decide +kernel
theorem dX5_van0_0 : decode cX5_van0 0 = .ok (.aload_n 0, 1) := by decide +kernel
theorem dX5_van0_1 : decode cX5_van0 1 = .ok (.getfield 7, 3) := by decide +kernel
theorem dX5_van0_4 : decode cX5_van0 4 = .ok (.iconst 5, 1) := by decide +kernel
theorem dX5_van0_5 : decode cX5_van0 5 = .ok (.bipush 7, 2) := by decide +kernel
theorem dX5_van0_7 : decode cX5_van0 7 = .ok (.iload_n 1, 1) := by decide +kernel
theorem dX5_van0_8 : decode cX5_van0 8 = .ok (.imul, 1) := by decide +kernel
theorem dX5_van0_9 : decode cX5_van0 9 = .ok (.iadd, 1) := by decide +kernel
theorem dX5_van0_10 : decode cX5_van0 10 = .ok (.iload_n 2, 1) := by decide +kernel
theorem dX5_van0_11 : decode cX5_van0 11 = .ok (.iadd, 1) := by decide +kernel
theorem dX5_van0_12 : decode cX5_van0 12 = .ok (.iaload, 1) := by decide +kernel
theorem dX5_van0_13 : decode cX5_van0 13 = .ok (.ireturn, 1) := by decide +kernel
theorem dX5_visit0_0 : decode cX5_visit0 0 = .ok (.aload_n 0, 1) := by decide +kernel
theorem dX5_visit0_1 : decode cX5_visit0 1 = .ok (.getfield 7, 3) := by decide +kernel
theorem dX5_visit0_4 : decode cX5_visit0 4 = .ok (.bipush 33, 2) := by decide +kernel
theorem dX5_visit0_6 : decode cX5_visit0 6 = .ok (.bipush 6, 2) := by decide +kernel
theorem dX5_visit0_8 : decode cX5_visit0 8 = .ok (.iload_n 1, 1) := by decide +kernel
theorem dX5_visit0_9 : decode cX5_visit0 9 = .ok (.imul, 1) := by decide +kernel
theorem dX5_visit0_10 : decode cX5_visit0 10 = .ok (.iadd, 1) := by decide +kernel
theorem dX5_visit0_11 : decode cX5_visit0 11 = .ok (.iload_n 2, 1) := by decide +kernel
theorem dX5_visit0_12 : decode cX5_visit0 12 = .ok (.iadd, 1) := by decide +kernel
theorem dX5_visit0_13 : decode cX5_visit0 13 = .ok (.iaload, 1) := by decide +kernel
theorem dX5_visit0_14 : decode cX5_visit0 14 = .ok (.ireturn, 1) := by decide +kernel
theorem dX5_records_0 : decode cX5_records 0 = .ok (.aload_n 0, 1) := by decide +kernel
theorem dX5_records_1 : decode cX5_records 1 = .ok (.getfield 66, 3) := by decide +kernel
theorem dX5_records_4 : decode cX5_records 4 = .ok (.bipush 6, 2) := by decide +kernel
theorem dX5_records_6 : decode cX5_records 6 = .ok (.if_icmp .ne 44, 3) := by decide +kernel
theorem dX5_records_9 : decode cX5_records 9 = .ok (.iconst 0, 1) := by decide +kernel
theorem dX5_records_10 : decode cX5_records 10 = .ok (.istore_n 1, 1) := by decide +kernel
theorem dX5_records_11 : decode cX5_records 11 = .ok (.iload_n 1, 1) := by decide +kernel
theorem dX5_records_12 : decode cX5_records 12 = .ok (.sipush 765, 3) := by decide +kernel
theorem dX5_records_15 : decode cX5_records 15 = .ok (.if_icmp .ge 25, 3) := by decide +kernel
theorem dX5_records_18 : decode cX5_records 18 = .ok (.aload_n 0, 1) := by decide +kernel
theorem dX5_records_19 : decode cX5_records 19 = .ok (.getfield 13, 3) := by decide +kernel
theorem dX5_records_22 : decode cX5_records 22 = .ok (.iload_n 1, 1) := by decide +kernel
theorem dX5_records_23 : decode cX5_records 23 = .ok (.aload_n 0, 1) := by decide +kernel
theorem dX5_records_24 : decode cX5_records 24 = .ok (.getfield 13, 3) := by decide +kernel
theorem dX5_records_27 : decode cX5_records 27 = .ok (.iload_n 1, 1) := by decide +kernel
theorem dX5_records_28 : decode cX5_records 28 = .ok (.sipush 153, 3) := by decide +kernel
theorem dX5_records_31 : decode cX5_records 31 = .ok (.iadd, 1) := by decide +kernel
theorem dX5_records_32 : decode cX5_records 32 = .ok (.iaload, 1) := by decide +kernel
theorem dX5_records_33 : decode cX5_records 33 = .ok (.iastore, 1) := by decide +kernel
theorem dX5_records_34 : decode cX5_records 34 = .ok (.iinc 1 1, 3) := by decide +kernel
theorem dX5_records_37 : decode cX5_records 37 = .ok (.goto (-26), 3) := by decide +kernel
theorem dX5_records_40 : decode cX5_records 40 = .ok (.aload_n 0, 1) := by decide +kernel
theorem dX5_records_41 : decode cX5_records 41 = .ok (.dup, 1) := by decide +kernel
theorem dX5_records_42 : decode cX5_records 42 = .ok (.getfield 66, 3) := by decide +kernel
theorem dX5_records_45 : decode cX5_records 45 = .ok (.iconst 1, 1) := by decide +kernel
theorem dX5_records_46 : decode cX5_records 46 = .ok (.isub, 1) := by decide +kernel
theorem dX5_records_47 : decode cX5_records 47 = .ok (.putfield 66, 3) := by decide +kernel
theorem dX5_records_50 : decode cX5_records 50 = .ok (.iconst 0, 1) := by decide +kernel
theorem dX5_records_51 : decode cX5_records 51 = .ok (.istore_n 1, 1) := by decide +kernel
theorem dX5_records_52 : decode cX5_records 52 = .ok (.iload_n 1, 1) := by decide +kernel
theorem dX5_records_53 : decode cX5_records 53 = .ok (.sipush 153, 3) := by decide +kernel
theorem dX5_records_56 : decode cX5_records 56 = .ok (.if_icmp .ge 30, 3) := by decide +kernel
theorem dX5_records_59 : decode cX5_records 59 = .ok (.aload_n 0, 1) := by decide +kernel
theorem dX5_records_60 : decode cX5_records 60 = .ok (.getfield 13, 3) := by decide +kernel
theorem dX5_records_63 : decode cX5_records 63 = .ok (.sipush 153, 3) := by decide +kernel
theorem dX5_records_66 : decode cX5_records 66 = .ok (.aload_n 0, 1) := by decide +kernel
theorem dX5_records_67 : decode cX5_records 67 = .ok (.getfield 66, 3) := by decide +kernel
theorem dX5_records_70 : decode cX5_records 70 = .ok (.imul, 1) := by decide +kernel
theorem dX5_records_71 : decode cX5_records 71 = .ok (.iload_n 1, 1) := by decide +kernel
theorem dX5_records_72 : decode cX5_records 72 = .ok (.iadd, 1) := by decide +kernel
theorem dX5_records_73 : decode cX5_records 73 = .ok (.aload_n 0, 1) := by decide +kernel
theorem dX5_records_74 : decode cX5_records 74 = .ok (.getfield 7, 3) := by decide +kernel
theorem dX5_records_77 : decode cX5_records 77 = .ok (.iload_n 1, 1) := by decide +kernel
theorem dX5_records_78 : decode cX5_records 78 = .ok (.iaload, 1) := by decide +kernel
theorem dX5_records_79 : decode cX5_records 79 = .ok (.iastore, 1) := by decide +kernel
theorem dX5_records_80 : decode cX5_records 80 = .ok (.iinc 1 1, 3) := by decide +kernel
theorem dX5_records_83 : decode cX5_records 83 = .ok (.goto (-31), 3) := by decide +kernel
theorem dX5_records_86 : decode cX5_records 86 = .ok (.aload_n 0, 1) := by decide +kernel
theorem dX5_records_87 : decode cX5_records 87 = .ok (.dup, 1) := by decide +kernel
theorem dX5_records_88 : decode cX5_records 88 = .ok (.getfield 66, 3) := by decide +kernel
theorem dX5_records_91 : decode cX5_records 91 = .ok (.iconst 1, 1) := by decide +kernel
theorem dX5_records_92 : decode cX5_records 92 = .ok (.iadd, 1) := by decide +kernel
theorem dX5_records_93 : decode cX5_records 93 = .ok (.putfield 66, 3) := by decide +kernel
theorem dX5_records_96 : decode cX5_records 96 = .ok (.return_, 1) := by decide +kernel
set_option maxRecDepth 20000 in
theorem ggX5_hasSkill_X5_van0 : GoodIn wsX5_hasSkill wsX5_van0 := goodIn_r _ [5, 6, 11, 12, 13, 14, 15, 16, 17, 18, 19, 20, 21, 22, 23, 24, 25, 26, 27, 28, 29, 30, 31, 32, 33] (by decide +kernel) (by decide +kernel)
set_option maxRecDepth 20000 in
theorem gX5_hasSkill_X5_van0 : GoodIn wsX5_hasSkill (wsV RX5 69 RX5 yX5_van0 wsX5_van0) := goodIn_app (goodIn_of _ (by decide +kernel)) ggX5_hasSkill_X5_van0
set_option maxRecDepth 20000 in
theorem ggX5_hasSkill_X5_visit0 : GoodIn wsX5_hasSkill wsX5_visit0 := goodIn_r _ [10, 6, 11, 12, 13, 14, 15, 16, 17, 18, 19, 20, 21, 22, 23, 24, 25, 26, 27, 28, 29, 30, 31, 32, 33] (by decide +kernel) (by decide +kernel)
set_option maxRecDepth 20000 in
theorem gX5_hasSkill_X5_visit0 : GoodIn wsX5_hasSkill (wsV RX5 73 RX5 yX5_visit0 wsX5_visit0) := goodIn_app (goodIn_of _ (by decide +kernel)) ggX5_hasSkill_X5_visit0
theorem dX5_hasSkill_0 : decode cX5_hasSkill 0 = .ok (.aload_n 0, 1) := by decide +kernel
theorem dX5_hasSkill_1 : decode cX5_hasSkill 1 = .ok (.iload_n 1, 1) := by decide +kernel
theorem dX5_hasSkill_2 : decode cX5_hasSkill 2 = .ok (.iconst 1, 1) := by decide +kernel
theorem dX5_hasSkill_3 : decode cX5_hasSkill 3 = .ok (.invokevirtual 69, 3) := by decide +kernel
theorem dX5_hasSkill_6 : decode cX5_hasSkill 6 = .ok (.aload_n 0, 1) := by decide +kernel
theorem dX5_hasSkill_7 : decode cX5_hasSkill 7 = .ok (.iload_n 2, 1) := by decide +kernel
theorem dX5_hasSkill_8 : decode cX5_hasSkill 8 = .ok (.iconst 1, 1) := by decide +kernel
theorem dX5_hasSkill_9 : decode cX5_hasSkill 9 = .ok (.invokevirtual 73, 3) := by decide +kernel
theorem dX5_hasSkill_12 : decode cX5_hasSkill 12 = .ok (.ishr, 1) := by decide +kernel
theorem dX5_hasSkill_13 : decode cX5_hasSkill 13 = .ok (.iconst 1, 1) := by decide +kernel
theorem dX5_hasSkill_14 : decode cX5_hasSkill 14 = .ok (.iand, 1) := by decide +kernel
theorem dX5_hasSkill_15 : decode cX5_hasSkill 15 = .ok (.iconst 1, 1) := by decide +kernel
theorem dX5_hasSkill_16 : decode cX5_hasSkill 16 = .ok (.if_icmp .ne 7, 3) := by decide +kernel
theorem dX5_hasSkill_19 : decode cX5_hasSkill 19 = .ok (.iconst 1, 1) := by decide +kernel
theorem dX5_hasSkill_20 : decode cX5_hasSkill 20 = .ok (.goto 4, 3) := by decide +kernel
theorem dX5_hasSkill_23 : decode cX5_hasSkill 23 = .ok (.iconst 0, 1) := by decide +kernel
theorem dX5_hasSkill_24 : decode cX5_hasSkill 24 = .ok (.ireturn, 1) := by decide +kernel
set_option maxRecDepth 20000 in
theorem ggX5_hasParts_X5_visit0 : GoodIn wsX5_hasParts wsX5_visit0 := goodIn_r _ [6, 7, 8, 9, 10, 11, 12, 13, 14, 15, 16, 17, 18, 19, 20, 21, 22, 23, 24, 25, 26, 27, 28, 29, 30] (by decide +kernel) (by decide +kernel)
set_option maxRecDepth 20000 in
theorem gX5_hasParts_X5_visit0 : GoodIn wsX5_hasParts (wsV RX5 73 RX5 yX5_visit0 wsX5_visit0) := goodIn_app (goodIn_of _ (by decide +kernel)) ggX5_hasParts_X5_visit0
theorem dX5_hasParts_0 : decode cX5_hasParts 0 = .ok (.aload_n 0, 1) := by decide +kernel
theorem dX5_hasParts_1 : decode cX5_hasParts 1 = .ok (.getfield 50, 3) := by decide +kernel
theorem dX5_hasParts_4 : decode cX5_hasParts 4 = .ok (.iconst 5, 1) := by decide +kernel
theorem dX5_hasParts_5 : decode cX5_hasParts 5 = .ok (.iload_n 1, 1) := by decide +kernel
theorem dX5_hasParts_6 : decode cX5_hasParts 6 = .ok (.imul, 1) := by decide +kernel
theorem dX5_hasParts_7 : decode cX5_hasParts 7 = .ok (.aload_n 0, 1) := by decide +kernel
theorem dX5_hasParts_8 : decode cX5_hasParts 8 = .ok (.iload_n 2, 1) := by decide +kernel
theorem dX5_hasParts_9 : decode cX5_hasParts 9 = .ok (.iconst 2, 1) := by decide +kernel
theorem dX5_hasParts_10 : decode cX5_hasParts 10 = .ok (.invokevirtual 73, 3) := by decide +kernel
theorem dX5_hasParts_13 : decode cX5_hasParts 13 = .ok (.iadd, 1) := by decide +kernel
theorem dX5_hasParts_14 : decode cX5_hasParts 14 = .ok (.iaload, 1) := by decide +kernel
theorem dX5_hasParts_15 : decode cX5_hasParts 15 = .ok (.aload_n 0, 1) := by decide +kernel
theorem dX5_hasParts_16 : decode cX5_hasParts 16 = .ok (.iload_n 2, 1) := by decide +kernel
theorem dX5_hasParts_17 : decode cX5_hasParts 17 = .ok (.iconst 3, 1) := by decide +kernel
theorem dX5_hasParts_18 : decode cX5_hasParts 18 = .ok (.invokevirtual 73, 3) := by decide +kernel
theorem dX5_hasParts_21 : decode cX5_hasParts 21 = .ok (.if_icmp .lt 7, 3) := by decide +kernel
theorem dX5_hasParts_24 : decode cX5_hasParts 24 = .ok (.iconst 1, 1) := by decide +kernel
theorem dX5_hasParts_25 : decode cX5_hasParts 25 = .ok (.goto 4, 3) := by decide +kernel
theorem dX5_hasParts_28 : decode cX5_hasParts 28 = .ok (.iconst 0, 1) := by decide +kernel
theorem dX5_hasParts_29 : decode cX5_hasParts 29 = .ok (.ireturn, 1) := by decide +kernel
set_option maxRecDepth 20000 in
theorem ggX5_wayTo_X5_visit0 : GoodIn wsX5_wayTo wsX5_visit0 := goodIn_r _ [7, 2, 8, 9, 10, 11, 12, 13, 14, 15, 16, 17, 18, 19, 20, 21, 22, 23, 24, 25, 26, 27, 28, 29, 30] (by decide +kernel) (by decide +kernel)
set_option maxRecDepth 20000 in
theorem gX5_wayTo_X5_visit0 : GoodIn wsX5_wayTo (wsV RX5 73 RX5 yX5_visit0 wsX5_visit0) := goodIn_app (goodIn_of _ (by decide +kernel)) ggX5_wayTo_X5_visit0
theorem dX5_wayTo_0 : decode cX5_wayTo 0 = .ok (.aload_n 0, 1) := by decide +kernel
theorem dX5_wayTo_1 : decode cX5_wayTo 1 = .ok (.getfield 44, 3) := by decide +kernel
theorem dX5_wayTo_4 : decode cX5_wayTo 4 = .ok (.iload_n 1, 1) := by decide +kernel
theorem dX5_wayTo_5 : decode cX5_wayTo 5 = .ok (.iaload, 1) := by decide +kernel
theorem dX5_wayTo_6 : decode cX5_wayTo 6 = .ok (.aload_n 0, 1) := by decide +kernel
theorem dX5_wayTo_7 : decode cX5_wayTo 7 = .ok (.iload_n 2, 1) := by decide +kernel
theorem dX5_wayTo_8 : decode cX5_wayTo 8 = .ok (.iconst 0, 1) := by decide +kernel
theorem dX5_wayTo_9 : decode cX5_wayTo 9 = .ok (.invokevirtual 73, 3) := by decide +kernel
theorem dX5_wayTo_12 : decode cX5_wayTo 12 = .ok (.isub, 1) := by decide +kernel
theorem dX5_wayTo_13 : decode cX5_wayTo 13 = .ok (.istore_n 3, 1) := by decide +kernel
theorem dX5_wayTo_14 : decode cX5_wayTo 14 = .ok (.iload_n 3, 1) := by decide +kernel
theorem dX5_wayTo_15 : decode cX5_wayTo 15 = .ok (.ifCond .ge 8, 3) := by decide +kernel
theorem dX5_wayTo_18 : decode cX5_wayTo 18 = .ok (.iload_n 3, 1) := by decide +kernel
theorem dX5_wayTo_19 : decode cX5_wayTo 19 = .ok (.ineg, 1) := by decide +kernel
theorem dX5_wayTo_20 : decode cX5_wayTo 20 = .ok (.goto 4, 3) := by decide +kernel
theorem dX5_wayTo_23 : decode cX5_wayTo 23 = .ok (.iload_n 3, 1) := by decide +kernel
theorem dX5_wayTo_24 : decode cX5_wayTo 24 = .ok (.aload_n 0, 1) := by decide +kernel
theorem dX5_wayTo_25 : decode cX5_wayTo 25 = .ok (.getfield 7, 3) := by decide +kernel
theorem dX5_wayTo_28 : decode cX5_wayTo 28 = .ok (.iconst 0, 1) := by decide +kernel
theorem dX5_wayTo_29 : decode cX5_wayTo 29 = .ok (.iaload, 1) := by decide +kernel
theorem dX5_wayTo_30 : decode cX5_wayTo 30 = .ok (.imul, 1) := by decide +kernel
theorem dX5_wayTo_31 : decode cX5_wayTo 31 = .ok (.ireturn, 1) := by decide +kernel
set_option maxRecDepth 20000 in
theorem ggX5_beginOf_X5_wayTo : GoodIn wsX5_beginOf wsX5_wayTo := goodIn_r _ [6, 7, 8, 9, 10, 11, 5, 12, 13, 14, 15, 16, 17, 18, 19, 20, 21, 22, 23, 24, 25, 26, 27, 28, 29, 30, 31, 32, 33, 34, 35] (by decide +kernel) (by decide +kernel)
set_option maxRecDepth 20000 in
theorem gX5_beginOf_X5_wayTo : GoodIn wsX5_beginOf (wsV RX5 76 RX5 yX5_wayTo wsX5_wayTo) := goodIn_app (goodIn_of _ (by decide +kernel)) ggX5_beginOf_X5_wayTo
set_option maxRecDepth 20000 in
theorem ggX5_beginOf_X5_visit0 : GoodIn wsX5_beginOf wsX5_visit0 := goodIn_r _ [12, 8, 13, 14, 15, 16, 17, 18, 19, 20, 21, 22, 23, 24, 25, 26, 27, 28, 29, 30, 31, 32, 33, 34, 35] (by decide +kernel) (by decide +kernel)
set_option maxRecDepth 20000 in
theorem gX5_beginOf_X5_visit0 : GoodIn wsX5_beginOf (wsV RX5 73 RX5 yX5_visit0 wsX5_visit0) := goodIn_app (goodIn_of _ (by decide +kernel)) ggX5_beginOf_X5_visit0
theorem dX5_beginOf_0 : decode cX5_beginOf 0 = .ok (.aload_n 0, 1) := by decide +kernel
theorem dX5_beginOf_1 : decode cX5_beginOf 1 = .ok (.getfield 47, 3) := by decide +kernel
theorem dX5_beginOf_4 : decode cX5_beginOf 4 = .ok (.iload_n 1, 1) := by decide +kernel
theorem dX5_beginOf_5 : decode cX5_beginOf 5 = .ok (.iaload, 1) := by decide +kernel
theorem dX5_beginOf_6 : decode cX5_beginOf 6 = .ok (.aload_n 0, 1) := by decide +kernel
theorem dX5_beginOf_7 : decode cX5_beginOf 7 = .ok (.iload_n 1, 1) := by decide +kernel
theorem dX5_beginOf_8 : decode cX5_beginOf 8 = .ok (.iload_n 2, 1) := by decide +kernel
theorem dX5_beginOf_9 : decode cX5_beginOf 9 = .ok (.invokevirtual 76, 3) := by decide +kernel
theorem dX5_beginOf_12 : decode cX5_beginOf 12 = .ok (.iadd, 1) := by decide +kernel
theorem dX5_beginOf_13 : decode cX5_beginOf 13 = .ok (.istore 4, 2) := by decide +kernel
theorem dX5_beginOf_15 : decode cX5_beginOf 15 = .ok (.aload_n 0, 1) := by decide +kernel
theorem dX5_beginOf_16 : decode cX5_beginOf 16 = .ok (.iload_n 2, 1) := by decide +kernel
theorem dX5_beginOf_17 : decode cX5_beginOf 17 = .ok (.iconst 4, 1) := by decide +kernel
theorem dX5_beginOf_18 : decode cX5_beginOf 18 = .ok (.invokevirtual 73, 3) := by decide +kernel
theorem dX5_beginOf_21 : decode cX5_beginOf 21 = .ok (.iload_n 3, 1) := by decide +kernel
theorem dX5_beginOf_22 : decode cX5_beginOf 22 = .ok (.iadd, 1) := by decide +kernel
theorem dX5_beginOf_23 : decode cX5_beginOf 23 = .ok (.istore 5, 2) := by decide +kernel
theorem dX5_beginOf_25 : decode cX5_beginOf 25 = .ok (.iload 4, 2) := by decide +kernel
theorem dX5_beginOf_27 : decode cX5_beginOf 27 = .ok (.iload 5, 2) := by decide +kernel
theorem dX5_beginOf_29 : decode cX5_beginOf 29 = .ok (.if_icmp .le 8, 3) := by decide +kernel
theorem dX5_beginOf_32 : decode cX5_beginOf 32 = .ok (.iload 4, 2) := by decide +kernel
theorem dX5_beginOf_34 : decode cX5_beginOf 34 = .ok (.goto 5, 3) := by decide +kernel
theorem dX5_beginOf_37 : decode cX5_beginOf 37 = .ok (.iload 5, 2) := by decide +kernel
theorem dX5_beginOf_39 : decode cX5_beginOf 39 = .ok (.ireturn, 1) := by decide +kernel
set_option maxRecDepth 20000 in
theorem ggX5_vanFor_X5_hasSkill : GoodIn wsX5_vanFor wsX5_hasSkill := goodIn_r _ [6, 7, 8, 9, 5, 10, 1, 11, 12, 13, 14, 30, 31, 32, 33, 34, 35, 36, 37, 38, 39, 40, 41, 42, 43, 44, 45, 46, 47, 48, 49, 50, 51, 52] (by decide +kernel) (by decide +kernel)
set_option maxRecDepth 20000 in
theorem gX5_vanFor_X5_hasSkill : GoodIn wsX5_vanFor (wsV RX5 79 RX5 yX5_hasSkill wsX5_hasSkill) := goodIn_app (goodIn_of _ (by decide +kernel)) ggX5_vanFor_X5_hasSkill
set_option maxRecDepth 20000 in
theorem ggX5_vanFor_X5_hasParts : GoodIn wsX5_vanFor wsX5_hasParts := goodIn_r _ [18, 19, 11, 12, 13, 5, 14, 1, 30, 31, 32, 33, 34, 35, 36, 37, 38, 39, 40, 41, 42, 43, 44, 45, 46, 47, 48, 49, 50, 51, 52] (by decide +kernel) (by decide +kernel)
set_option maxRecDepth 20000 in
theorem gX5_vanFor_X5_hasParts : GoodIn wsX5_vanFor (wsV RX5 83 RX5 yX5_hasParts wsX5_hasParts) := goodIn_app (goodIn_of _ (by decide +kernel)) ggX5_vanFor_X5_hasParts
set_option maxRecDepth 20000 in
theorem ggX5_vanFor_X5_beginOf : GoodIn wsX5_vanFor wsX5_beginOf := goodIn_r _ [23, 24, 25, 26, 27, 5, 28, 29, 1, 11, 12, 13, 14, 30, 31, 32, 33, 34, 35, 36, 37, 38, 39, 40, 41, 42, 43, 44, 45, 46, 47, 48, 49, 50, 51, 52] (by decide +kernel) (by decide +kernel)
set_option maxRecDepth 20000 in
theorem gX5_vanFor_X5_beginOf : GoodIn wsX5_vanFor (wsV RX5 86 RX5 yX5_beginOf wsX5_beginOf) := goodIn_app (goodIn_of _ (by decide +kernel)) ggX5_vanFor_X5_beginOf
set_option maxRecDepth 20000 in
theorem ggX5_vanFor_X5_visit0 : GoodIn wsX5_vanFor wsX5_visit0 := goodIn_r _ [14, 1, 30, 31, 32, 33, 34, 35, 36, 37, 38, 39, 40, 41, 42, 43, 44, 45, 46, 47, 48, 49, 50, 51, 52] (by decide +kernel) (by decide +kernel)
set_option maxRecDepth 20000 in
theorem gX5_vanFor_X5_visit0 : GoodIn wsX5_vanFor (wsV RX5 73 RX5 yX5_visit0 wsX5_visit0) := goodIn_app (goodIn_of _ (by decide +kernel)) ggX5_vanFor_X5_visit0
theorem dX5_vanFor_0 : decode cX5_vanFor 0 = .ok (.bipush (-6), 2) := by decide +kernel
theorem dX5_vanFor_2 : decode cX5_vanFor 2 = .ok (.istore_n 3, 1) := by decide +kernel
theorem dX5_vanFor_3 : decode cX5_vanFor 3 = .ok (.iconst 0, 1) := by decide +kernel
theorem dX5_vanFor_4 : decode cX5_vanFor 4 = .ok (.istore 4, 2) := by decide +kernel
theorem dX5_vanFor_6 : decode cX5_vanFor 6 = .ok (.iload 4, 2) := by decide +kernel
theorem dX5_vanFor_8 : decode cX5_vanFor 8 = .ok (.aload_n 0, 1) := by decide +kernel
theorem dX5_vanFor_9 : decode cX5_vanFor 9 = .ok (.getfield 7, 3) := by decide +kernel
theorem dX5_vanFor_12 : decode cX5_vanFor 12 = .ok (.iconst 4, 1) := by decide +kernel
theorem dX5_vanFor_13 : decode cX5_vanFor 13 = .ok (.iaload, 1) := by decide +kernel
theorem dX5_vanFor_14 : decode cX5_vanFor 14 = .ok (.if_icmp .ge 91, 3) := by decide +kernel
theorem dX5_vanFor_17 : decode cX5_vanFor 17 = .ok (.aload_n 0, 1) := by decide +kernel
theorem dX5_vanFor_18 : decode cX5_vanFor 18 = .ok (.iload 4, 2) := by decide +kernel
theorem dX5_vanFor_20 : decode cX5_vanFor 20 = .ok (.iload_n 1, 1) := by decide +kernel
theorem dX5_vanFor_21 : decode cX5_vanFor 21 = .ok (.invokevirtual 79, 3) := by decide +kernel
theorem dX5_vanFor_24 : decode cX5_vanFor 24 = .ok (.ifCond .eq 36, 3) := by decide +kernel
theorem dX5_vanFor_27 : decode cX5_vanFor 27 = .ok (.aload_n 0, 1) := by decide +kernel
theorem dX5_vanFor_28 : decode cX5_vanFor 28 = .ok (.iload 4, 2) := by decide +kernel
theorem dX5_vanFor_30 : decode cX5_vanFor 30 = .ok (.iload_n 1, 1) := by decide +kernel
theorem dX5_vanFor_31 : decode cX5_vanFor 31 = .ok (.invokevirtual 83, 3) := by decide +kernel
theorem dX5_vanFor_34 : decode cX5_vanFor 34 = .ok (.ifCond .eq 26, 3) := by decide +kernel
theorem dX5_vanFor_37 : decode cX5_vanFor 37 = .ok (.aload_n 0, 1) := by decide +kernel
theorem dX5_vanFor_38 : decode cX5_vanFor 38 = .ok (.iload 4, 2) := by decide +kernel
theorem dX5_vanFor_40 : decode cX5_vanFor 40 = .ok (.iload_n 1, 1) := by decide +kernel
theorem dX5_vanFor_41 : decode cX5_vanFor 41 = .ok (.iload_n 2, 1) := by decide +kernel
theorem dX5_vanFor_42 : decode cX5_vanFor 42 = .ok (.invokevirtual 86, 3) := by decide +kernel
theorem dX5_vanFor_45 : decode cX5_vanFor 45 = .ok (.aload_n 0, 1) := by decide +kernel
theorem dX5_vanFor_46 : decode cX5_vanFor 46 = .ok (.iload_n 1, 1) := by decide +kernel
theorem dX5_vanFor_47 : decode cX5_vanFor 47 = .ok (.iconst 5, 1) := by decide +kernel
theorem dX5_vanFor_48 : decode cX5_vanFor 48 = .ok (.invokevirtual 73, 3) := by decide +kernel
theorem dX5_vanFor_51 : decode cX5_vanFor 51 = .ok (.iload_n 2, 1) := by decide +kernel
theorem dX5_vanFor_52 : decode cX5_vanFor 52 = .ok (.iadd, 1) := by decide +kernel
theorem dX5_vanFor_53 : decode cX5_vanFor 53 = .ok (.if_icmp .gt 7, 3) := by decide +kernel
theorem dX5_vanFor_56 : decode cX5_vanFor 56 = .ok (.iconst 1, 1) := by decide +kernel
theorem dX5_vanFor_57 : decode cX5_vanFor 57 = .ok (.goto 4, 3) := by decide +kernel
theorem dX5_vanFor_60 : decode cX5_vanFor 60 = .ok (.iconst 0, 1) := by decide +kernel
theorem dX5_vanFor_61 : decode cX5_vanFor 61 = .ok (.istore 5, 2) := by decide +kernel
theorem dX5_vanFor_63 : decode cX5_vanFor 63 = .ok (.iload 5, 2) := by decide +kernel
theorem dX5_vanFor_65 : decode cX5_vanFor 65 = .ok (.ifCond .eq 32, 3) := by decide +kernel
theorem dX5_vanFor_68 : decode cX5_vanFor 68 = .ok (.iload_n 3, 1) := by decide +kernel
theorem dX5_vanFor_69 : decode cX5_vanFor 69 = .ok (.bipush (-6), 2) := by decide +kernel
theorem dX5_vanFor_71 : decode cX5_vanFor 71 = .ok (.if_icmp .eq 21, 3) := by decide +kernel
theorem dX5_vanFor_74 : decode cX5_vanFor 74 = .ok (.aload_n 0, 1) := by decide +kernel
theorem dX5_vanFor_75 : decode cX5_vanFor 75 = .ok (.iload 4, 2) := by decide +kernel
theorem dX5_vanFor_77 : decode cX5_vanFor 77 = .ok (.iload_n 1, 1) := by decide +kernel
theorem dX5_vanFor_78 : decode cX5_vanFor 78 = .ok (.iload_n 2, 1) := by decide +kernel
theorem dX5_vanFor_79 : decode cX5_vanFor 79 = .ok (.invokevirtual 86, 3) := by decide +kernel
theorem dX5_vanFor_82 : decode cX5_vanFor 82 = .ok (.aload_n 0, 1) := by decide +kernel
theorem dX5_vanFor_83 : decode cX5_vanFor 83 = .ok (.iload_n 3, 1) := by decide +kernel
theorem dX5_vanFor_84 : decode cX5_vanFor 84 = .ok (.iload_n 1, 1) := by decide +kernel
theorem dX5_vanFor_85 : decode cX5_vanFor 85 = .ok (.iload_n 2, 1) := by decide +kernel
theorem dX5_vanFor_86 : decode cX5_vanFor 86 = .ok (.invokevirtual 86, 3) := by decide +kernel
theorem dX5_vanFor_89 : decode cX5_vanFor 89 = .ok (.if_icmp .ge 8, 3) := by decide +kernel
theorem dX5_vanFor_92 : decode cX5_vanFor 92 = .ok (.iload 4, 2) := by decide +kernel
theorem dX5_vanFor_94 : decode cX5_vanFor 94 = .ok (.goto 4, 3) := by decide +kernel
theorem dX5_vanFor_97 : decode cX5_vanFor 97 = .ok (.iload_n 3, 1) := by decide +kernel
theorem dX5_vanFor_98 : decode cX5_vanFor 98 = .ok (.istore_n 3, 1) := by decide +kernel
theorem dX5_vanFor_99 : decode cX5_vanFor 99 = .ok (.iinc 4 1, 3) := by decide +kernel
theorem dX5_vanFor_102 : decode cX5_vanFor 102 = .ok (.goto (-96), 3) := by decide +kernel
theorem dX5_vanFor_105 : decode cX5_vanFor 105 = .ok (.iload_n 3, 1) := by decide +kernel
theorem dX5_vanFor_106 : decode cX5_vanFor 106 = .ok (.ireturn, 1) := by decide +kernel
set_option maxRecDepth 20000 in
theorem ggX5_makes_X5_wayTo : GoodIn wsX5_makes wsX5_wayTo := goodIn_r _ [15, 9, 8, 16, 17, 18, 14, 19, 24, 25, 26, 27, 28, 29, 30, 31, 32, 33, 34, 35, 36, 37, 38, 39, 40, 41, 42, 43, 44, 45, 46] (by decide +kernel) (by decide +kernel)
set_option maxRecDepth 20000 in
theorem gX5_makes_X5_wayTo : GoodIn wsX5_makes (wsV RX5 76 RX5 yX5_wayTo wsX5_wayTo) := goodIn_app (goodIn_of _ (by decide +kernel)) ggX5_makes_X5_wayTo
set_option maxRecDepth 20000 in
theorem ggX5_makes_X5_beginOf : GoodIn wsX5_makes wsX5_beginOf := goodIn_r _ [23, 4, 11, 12, 13, 14, 15, 9, 8, 16, 17, 18, 19, 24, 25, 26, 27, 28, 29, 30, 31, 32, 33, 34, 35, 36, 37, 38, 39, 40, 41, 42, 43, 44, 45, 46] (by decide +kernel) (by decide +kernel)
set_option maxRecDepth 20000 in
theorem gX5_makes_X5_beginOf : GoodIn wsX5_makes (wsV RX5 86 RX5 yX5_beginOf wsX5_beginOf) := goodIn_app (goodIn_of _ (by decide +kernel)) ggX5_makes_X5_beginOf
set_option maxRecDepth 20000 in
theorem ggX5_makes_X5_visit0 : GoodIn wsX5_makes wsX5_visit0 := goodIn_r _ [19, 8, 24, 25, 26, 27, 28, 29, 30, 31, 32, 33, 34, 35, 36, 37, 38, 39, 40, 41, 42, 43, 44, 45, 46] (by decide +kernel) (by decide +kernel)
set_option maxRecDepth 20000 in
theorem gX5_makes_X5_visit0 : GoodIn wsX5_makes (wsV RX5 73 RX5 yX5_visit0 wsX5_visit0) := goodIn_app (goodIn_of _ (by decide +kernel)) ggX5_makes_X5_visit0
theorem dX5_makes_0 : decode cX5_makes 0 = .ok (.aload_n 0, 1) := by decide +kernel
theorem dX5_makes_1 : decode cX5_makes 1 = .ok (.iload_n 1, 1) := by decide +kernel
theorem dX5_makes_2 : decode cX5_makes 2 = .ok (.iload_n 2, 1) := by decide +kernel
theorem dX5_makes_3 : decode cX5_makes 3 = .ok (.invokevirtual 76, 3) := by decide +kernel
theorem dX5_makes_6 : decode cX5_makes 6 = .ok (.istore 4, 2) := by decide +kernel
theorem dX5_makes_8 : decode cX5_makes 8 = .ok (.aload_n 0, 1) := by decide +kernel
theorem dX5_makes_9 : decode cX5_makes 9 = .ok (.iload_n 1, 1) := by decide +kernel
theorem dX5_makes_10 : decode cX5_makes 10 = .ok (.iload_n 2, 1) := by decide +kernel
theorem dX5_makes_11 : decode cX5_makes 11 = .ok (.iload_n 3, 1) := by decide +kernel
theorem dX5_makes_12 : decode cX5_makes 12 = .ok (.invokevirtual 86, 3) := by decide +kernel
theorem dX5_makes_15 : decode cX5_makes 15 = .ok (.istore 5, 2) := by decide +kernel
theorem dX5_makes_17 : decode cX5_makes 17 = .ok (.aload_n 0, 1) := by decide +kernel
theorem dX5_makes_18 : decode cX5_makes 18 = .ok (.getfield 32, 3) := by decide +kernel
theorem dX5_makes_21 : decode cX5_makes 21 = .ok (.iload_n 2, 1) := by decide +kernel
theorem dX5_makes_22 : decode cX5_makes 22 = .ok (.iload_n 1, 1) := by decide +kernel
theorem dX5_makes_23 : decode cX5_makes 23 = .ok (.iastore, 1) := by decide +kernel
theorem dX5_makes_24 : decode cX5_makes 24 = .ok (.aload_n 0, 1) := by decide +kernel
theorem dX5_makes_25 : decode cX5_makes 25 = .ok (.getfield 35, 3) := by decide +kernel
theorem dX5_makes_28 : decode cX5_makes 28 = .ok (.iload_n 2, 1) := by decide +kernel
theorem dX5_makes_29 : decode cX5_makes 29 = .ok (.iload 5, 2) := by decide +kernel
theorem dX5_makes_31 : decode cX5_makes 31 = .ok (.iastore, 1) := by decide +kernel
theorem dX5_makes_32 : decode cX5_makes 32 = .ok (.aload_n 0, 1) := by decide +kernel
theorem dX5_makes_33 : decode cX5_makes 33 = .ok (.getfield 41, 3) := by decide +kernel
theorem dX5_makes_36 : decode cX5_makes 36 = .ok (.iload_n 2, 1) := by decide +kernel
theorem dX5_makes_37 : decode cX5_makes 37 = .ok (.aload_n 0, 1) := by decide +kernel
theorem dX5_makes_38 : decode cX5_makes 38 = .ok (.getfield 47, 3) := by decide +kernel
theorem dX5_makes_41 : decode cX5_makes 41 = .ok (.iload_n 1, 1) := by decide +kernel
theorem dX5_makes_42 : decode cX5_makes 42 = .ok (.iaload, 1) := by decide +kernel
theorem dX5_makes_43 : decode cX5_makes 43 = .ok (.iastore, 1) := by decide +kernel
theorem dX5_makes_44 : decode cX5_makes 44 = .ok (.aload_n 0, 1) := by decide +kernel
theorem dX5_makes_45 : decode cX5_makes 45 = .ok (.getfield 38, 3) := by decide +kernel
theorem dX5_makes_48 : decode cX5_makes 48 = .ok (.iload_n 2, 1) := by decide +kernel
theorem dX5_makes_49 : decode cX5_makes 49 = .ok (.aload_n 0, 1) := by decide +kernel
theorem dX5_makes_50 : decode cX5_makes 50 = .ok (.getfield 47, 3) := by decide +kernel
theorem dX5_makes_53 : decode cX5_makes 53 = .ok (.iload_n 1, 1) := by decide +kernel
theorem dX5_makes_54 : decode cX5_makes 54 = .ok (.iaload, 1) := by decide +kernel
theorem dX5_makes_55 : decode cX5_makes 55 = .ok (.iload 4, 2) := by decide +kernel
theorem dX5_makes_57 : decode cX5_makes 57 = .ok (.iadd, 1) := by decide +kernel
theorem dX5_makes_58 : decode cX5_makes 58 = .ok (.iastore, 1) := by decide +kernel
theorem dX5_makes_59 : decode cX5_makes 59 = .ok (.aload_n 0, 1) := by decide +kernel
theorem dX5_makes_60 : decode cX5_makes 60 = .ok (.getfield 53, 3) := by decide +kernel
theorem dX5_makes_63 : decode cX5_makes 63 = .ok (.iload_n 1, 1) := by decide +kernel
theorem dX5_makes_64 : decode cX5_makes 64 = .ok (.dup2, 1) := by decide +kernel
theorem dX5_makes_65 : decode cX5_makes 65 = .ok (.iaload, 1) := by decide +kernel
theorem dX5_makes_66 : decode cX5_makes 66 = .ok (.iload 4, 2) := by decide +kernel
theorem dX5_makes_68 : decode cX5_makes 68 = .ok (.iadd, 1) := by decide +kernel
theorem dX5_makes_69 : decode cX5_makes 69 = .ok (.iastore, 1) := by decide +kernel
theorem dX5_makes_70 : decode cX5_makes 70 = .ok (.aload_n 0, 1) := by decide +kernel
theorem dX5_makes_71 : decode cX5_makes 71 = .ok (.getfield 56, 3) := by decide +kernel
theorem dX5_makes_74 : decode cX5_makes 74 = .ok (.iload_n 1, 1) := by decide +kernel
theorem dX5_makes_75 : decode cX5_makes 75 = .ok (.dup2, 1) := by decide +kernel
theorem dX5_makes_76 : decode cX5_makes 76 = .ok (.iaload, 1) := by decide +kernel
theorem dX5_makes_77 : decode cX5_makes 77 = .ok (.iload 5, 2) := by decide +kernel
theorem dX5_makes_79 : decode cX5_makes 79 = .ok (.aload_n 0, 1) := by decide +kernel
theorem dX5_makes_80 : decode cX5_makes 80 = .ok (.getfield 38, 3) := by decide +kernel
theorem dX5_makes_83 : decode cX5_makes 83 = .ok (.iload_n 2, 1) := by decide +kernel
theorem dX5_makes_84 : decode cX5_makes 84 = .ok (.iaload, 1) := by decide +kernel
theorem dX5_makes_85 : decode cX5_makes 85 = .ok (.isub, 1) := by decide +kernel
theorem dX5_makes_86 : decode cX5_makes 86 = .ok (.iadd, 1) := by decide +kernel
theorem dX5_makes_87 : decode cX5_makes 87 = .ok (.iastore, 1) := by decide +kernel
theorem dX5_makes_88 : decode cX5_makes 88 = .ok (.aload_n 0, 1) := by decide +kernel
theorem dX5_makes_89 : decode cX5_makes 89 = .ok (.getfield 47, 3) := by decide +kernel
theorem dX5_makes_92 : decode cX5_makes 92 = .ok (.iload_n 1, 1) := by decide +kernel
theorem dX5_makes_93 : decode cX5_makes 93 = .ok (.iload 5, 2) := by decide +kernel
theorem dX5_makes_95 : decode cX5_makes 95 = .ok (.aload_n 0, 1) := by decide +kernel
theorem dX5_makes_96 : decode cX5_makes 96 = .ok (.getfield 7, 3) := by decide +kernel
theorem dX5_makes_99 : decode cX5_makes 99 = .ok (.iconst 1, 1) := by decide +kernel
theorem dX5_makes_100 : decode cX5_makes 100 = .ok (.iaload, 1) := by decide +kernel
theorem dX5_makes_101 : decode cX5_makes 101 = .ok (.iadd, 1) := by decide +kernel
theorem dX5_makes_102 : decode cX5_makes 102 = .ok (.iastore, 1) := by decide +kernel
theorem dX5_makes_103 : decode cX5_makes 103 = .ok (.aload_n 0, 1) := by decide +kernel
theorem dX5_makes_104 : decode cX5_makes 104 = .ok (.getfield 44, 3) := by decide +kernel
theorem dX5_makes_107 : decode cX5_makes 107 = .ok (.iload_n 1, 1) := by decide +kernel
theorem dX5_makes_108 : decode cX5_makes 108 = .ok (.aload_n 0, 1) := by decide +kernel
theorem dX5_makes_109 : decode cX5_makes 109 = .ok (.iload_n 2, 1) := by decide +kernel
theorem dX5_makes_110 : decode cX5_makes 110 = .ok (.iconst 0, 1) := by decide +kernel
theorem dX5_makes_111 : decode cX5_makes 111 = .ok (.invokevirtual 73, 3) := by decide +kernel
theorem dX5_makes_114 : decode cX5_makes 114 = .ok (.iastore, 1) := by decide +kernel
theorem dX5_makes_115 : decode cX5_makes 115 = .ok (.aload_n 0, 1) := by decide +kernel
theorem dX5_makes_116 : decode cX5_makes 116 = .ok (.getfield 50, 3) := by decide +kernel
theorem dX5_makes_119 : decode cX5_makes 119 = .ok (.iconst 5, 1) := by decide +kernel
theorem dX5_makes_120 : decode cX5_makes 120 = .ok (.iload_n 1, 1) := by decide +kernel
theorem dX5_makes_121 : decode cX5_makes 121 = .ok (.imul, 1) := by decide +kernel
theorem dX5_makes_122 : decode cX5_makes 122 = .ok (.aload_n 0, 1) := by decide +kernel
theorem dX5_makes_123 : decode cX5_makes 123 = .ok (.iload_n 2, 1) := by decide +kernel
theorem dX5_makes_124 : decode cX5_makes 124 = .ok (.iconst 2, 1) := by decide +kernel
theorem dX5_makes_125 : decode cX5_makes 125 = .ok (.invokevirtual 73, 3) := by decide +kernel
theorem dX5_makes_128 : decode cX5_makes 128 = .ok (.iadd, 1) := by decide +kernel
theorem dX5_makes_129 : decode cX5_makes 129 = .ok (.dup2, 1) := by decide +kernel
theorem dX5_makes_130 : decode cX5_makes 130 = .ok (.iaload, 1) := by decide +kernel
theorem dX5_makes_131 : decode cX5_makes 131 = .ok (.aload_n 0, 1) := by decide +kernel
theorem dX5_makes_132 : decode cX5_makes 132 = .ok (.iload_n 2, 1) := by decide +kernel
theorem dX5_makes_133 : decode cX5_makes 133 = .ok (.iconst 3, 1) := by decide +kernel
theorem dX5_makes_134 : decode cX5_makes 134 = .ok (.invokevirtual 73, 3) := by decide +kernel
theorem dX5_makes_137 : decode cX5_makes 137 = .ok (.isub, 1) := by decide +kernel
theorem dX5_makes_138 : decode cX5_makes 138 = .ok (.iastore, 1) := by decide +kernel
theorem dX5_makes_139 : decode cX5_makes 139 = .ok (.return_, 1) := by decide +kernel
set_option maxRecDepth 20000 in
theorem ggX5_reason_X5_hasSkill : GoodIn wsX5_reason wsX5_hasSkill := goodIn_r _ [6, 7, 8, 9, 5, 10, 1, 11, 12, 13, 14, 20, 21, 22, 23, 24, 25, 26, 27, 28, 29, 30, 31, 32, 33, 34, 35, 36, 37, 38, 39, 40, 41, 42] (by decide +kernel) (by decide +kernel)
set_option maxRecDepth 20000 in
theorem gX5_reason_X5_hasSkill : GoodIn wsX5_reason (wsV RX5 79 RX5 yX5_hasSkill wsX5_hasSkill) := goodIn_app (goodIn_of _ (by decide +kernel)) ggX5_reason_X5_hasSkill
set_option maxRecDepth 20000 in
theorem ggX5_reason_X5_hasParts : GoodIn wsX5_reason wsX5_hasParts := goodIn_r _ [18, 19, 11, 12, 13, 5, 14, 1, 20, 21, 22, 23, 24, 25, 26, 27, 28, 29, 30, 31, 32, 33, 34, 35, 36, 37, 38, 39, 40, 41, 42] (by decide +kernel) (by decide +kernel)
set_option maxRecDepth 20000 in
theorem gX5_reason_X5_hasParts : GoodIn wsX5_reason (wsV RX5 83 RX5 yX5_hasParts wsX5_hasParts) := goodIn_app (goodIn_of _ (by decide +kernel)) ggX5_reason_X5_hasParts
theorem dX5_reason_0 : decode cX5_reason 0 = .ok (.iconst 2, 1) := by decide +kernel
theorem dX5_reason_1 : decode cX5_reason 1 = .ok (.istore_n 2, 1) := by decide +kernel
theorem dX5_reason_2 : decode cX5_reason 2 = .ok (.iconst 0, 1) := by decide +kernel
theorem dX5_reason_3 : decode cX5_reason 3 = .ok (.istore_n 3, 1) := by decide +kernel
theorem dX5_reason_4 : decode cX5_reason 4 = .ok (.iload_n 3, 1) := by decide +kernel
theorem dX5_reason_5 : decode cX5_reason 5 = .ok (.aload_n 0, 1) := by decide +kernel
theorem dX5_reason_6 : decode cX5_reason 6 = .ok (.getfield 7, 3) := by decide +kernel
theorem dX5_reason_9 : decode cX5_reason 9 = .ok (.iconst 4, 1) := by decide +kernel
theorem dX5_reason_10 : decode cX5_reason 10 = .ok (.iaload, 1) := by decide +kernel
theorem dX5_reason_11 : decode cX5_reason 11 = .ok (.if_icmp .ge 51, 3) := by decide +kernel
theorem dX5_reason_14 : decode cX5_reason 14 = .ok (.aload_n 0, 1) := by decide +kernel
theorem dX5_reason_15 : decode cX5_reason 15 = .ok (.iload_n 3, 1) := by decide +kernel
theorem dX5_reason_16 : decode cX5_reason 16 = .ok (.iload_n 1, 1) := by decide +kernel
theorem dX5_reason_17 : decode cX5_reason 17 = .ok (.invokevirtual 79, 3) := by decide +kernel
theorem dX5_reason_20 : decode cX5_reason 20 = .ok (.ifCond .ne 7, 3) := by decide +kernel
theorem dX5_reason_23 : decode cX5_reason 23 = .ok (.iconst 2, 1) := by decide +kernel
theorem dX5_reason_24 : decode cX5_reason 24 = .ok (.goto 17, 3) := by decide +kernel
theorem dX5_reason_27 : decode cX5_reason 27 = .ok (.aload_n 0, 1) := by decide +kernel
theorem dX5_reason_28 : decode cX5_reason 28 = .ok (.iload_n 3, 1) := by decide +kernel
theorem dX5_reason_29 : decode cX5_reason 29 = .ok (.iload_n 1, 1) := by decide +kernel
theorem dX5_reason_30 : decode cX5_reason 30 = .ok (.invokevirtual 83, 3) := by decide +kernel
theorem dX5_reason_33 : decode cX5_reason 33 = .ok (.ifCond .eq 7, 3) := by decide +kernel
theorem dX5_reason_36 : decode cX5_reason 36 = .ok (.iconst 4, 1) := by decide +kernel
theorem dX5_reason_37 : decode cX5_reason 37 = .ok (.goto 4, 3) := by decide +kernel
theorem dX5_reason_40 : decode cX5_reason 40 = .ok (.iconst 3, 1) := by decide +kernel
theorem dX5_reason_41 : decode cX5_reason 41 = .ok (.istore 4, 2) := by decide +kernel
theorem dX5_reason_43 : decode cX5_reason 43 = .ok (.iload 4, 2) := by decide +kernel
theorem dX5_reason_45 : decode cX5_reason 45 = .ok (.iload_n 2, 1) := by decide +kernel
theorem dX5_reason_46 : decode cX5_reason 46 = .ok (.if_icmp .le 8, 3) := by decide +kernel
theorem dX5_reason_49 : decode cX5_reason 49 = .ok (.iload 4, 2) := by decide +kernel
theorem dX5_reason_51 : decode cX5_reason 51 = .ok (.goto 4, 3) := by decide +kernel
theorem dX5_reason_54 : decode cX5_reason 54 = .ok (.iload_n 2, 1) := by decide +kernel
theorem dX5_reason_55 : decode cX5_reason 55 = .ok (.istore_n 2, 1) := by decide +kernel
theorem dX5_reason_56 : decode cX5_reason 56 = .ok (.iinc 3 1, 3) := by decide +kernel
theorem dX5_reason_59 : decode cX5_reason 59 = .ok (.goto (-55), 3) := by decide +kernel
theorem dX5_reason_62 : decode cX5_reason 62 = .ok (.iload_n 2, 1) := by decide +kernel
theorem dX5_reason_63 : decode cX5_reason 63 = .ok (.ireturn, 1) := by decide +kernel
set_option maxRecDepth 20000 in
theorem ggX5_looks_X5_vanFor : GoodIn wsX5_looks wsX5_vanFor := goodIn_r _ [5, 6, 7, 8, 9, 4, 10, 11, 12, 13, 14, 15, 16, 17, 18, 19, 20, 21, 22, 23, 24, 25, 26, 27, 28, 29, 30, 31, 32, 33, 48, 49, 50, 51, 52, 53, 54, 55, 56, 57, 58, 59, 60, 61, 62, 63, 64, 65, 66, 67, 68, 69, 70] (by decide +kernel) (by decide +kernel)
set_option maxRecDepth 20000 in
theorem gX5_looks_X5_vanFor : GoodIn wsX5_looks (wsV RX5 90 RX5 yX5_vanFor wsX5_vanFor) := goodIn_app (goodIn_of _ (by decide +kernel)) ggX5_looks_X5_vanFor
set_option maxRecDepth 20000 in
theorem ggX5_looks_X5_reason : GoodIn wsX5_looks wsX5_reason := goodIn_r _ [37, 6, 7, 8, 9, 4, 10, 11, 12, 13, 14, 15, 16, 17, 18, 19, 20, 21, 22, 23, 48, 49, 50, 51, 52, 53, 54, 55, 56, 57, 58, 59, 60, 61, 62, 63, 64, 65, 66, 67, 68, 69, 70] (by decide +kernel) (by decide +kernel)
set_option maxRecDepth 20000 in
theorem gX5_looks_X5_reason : GoodIn wsX5_looks (wsV RX5 93 RX5 yX5_reason wsX5_reason) := goodIn_app (goodIn_of _ (by decide +kernel)) ggX5_looks_X5_reason
set_option maxRecDepth 20000 in
theorem ggX5_looks_X5_makes : GoodIn wsX5_looks wsX5_makes := goodIn_r _ [41, 42, 43, 44, 28, 45, 46, 47, 6, 33, 23, 29, 30, 31, 4, 32, 15, 16, 17, 18, 24, 25, 26, 27, 48, 49, 50, 51, 52, 53, 54, 55, 56, 57, 58, 59, 60, 61, 62, 63, 64, 65, 66, 67, 68, 69, 70] (by decide +kernel) (by decide +kernel)
set_option maxRecDepth 20000 in
theorem gX5_looks_X5_makes : GoodIn wsX5_looks (wsV RX5 97 RX5 yX5_makes wsX5_makes) := goodIn_app (goodIn_of _ (by decide +kernel)) ggX5_looks_X5_makes
theorem dX5_looks_0 : decode cX5_looks 0 = .ok (.aload_n 0, 1) := by decide +kernel
theorem dX5_looks_1 : decode cX5_looks 1 = .ok (.iload_n 1, 1) := by decide +kernel
theorem dX5_looks_2 : decode cX5_looks 2 = .ok (.iload_n 2, 1) := by decide +kernel
theorem dX5_looks_3 : decode cX5_looks 3 = .ok (.invokevirtual 90, 3) := by decide +kernel
theorem dX5_looks_6 : decode cX5_looks 6 = .ok (.istore 4, 2) := by decide +kernel
theorem dX5_looks_8 : decode cX5_looks 8 = .ok (.iload 4, 2) := by decide +kernel
theorem dX5_looks_10 : decode cX5_looks 10 = .ok (.bipush (-6), 2) := by decide +kernel
theorem dX5_looks_12 : decode cX5_looks 12 = .ok (.if_icmp .ne 9, 3) := by decide +kernel
theorem dX5_looks_15 : decode cX5_looks 15 = .ok (.aload_n 0, 1) := by decide +kernel
theorem dX5_looks_16 : decode cX5_looks 16 = .ok (.iload_n 1, 1) := by decide +kernel
theorem dX5_looks_17 : decode cX5_looks 17 = .ok (.invokevirtual 93, 3) := by decide +kernel
theorem dX5_looks_20 : decode cX5_looks 20 = .ok (.ireturn, 1) := by decide +kernel
theorem dX5_looks_21 : decode cX5_looks 21 = .ok (.aload_n 0, 1) := by decide +kernel
theorem dX5_looks_22 : decode cX5_looks 22 = .ok (.iload 4, 2) := by decide +kernel
theorem dX5_looks_24 : decode cX5_looks 24 = .ok (.iload_n 1, 1) := by decide +kernel
theorem dX5_looks_25 : decode cX5_looks 25 = .ok (.iload_n 2, 1) := by decide +kernel
theorem dX5_looks_26 : decode cX5_looks 26 = .ok (.invokevirtual 97, 3) := by decide +kernel
theorem dX5_looks_29 : decode cX5_looks 29 = .ok (.iload_n 3, 1) := by decide +kernel
theorem dX5_looks_30 : decode cX5_looks 30 = .ok (.ireturn, 1) := by decide +kernel
set_option maxRecDepth 20000 in
theorem ggX5_rankOf_X5_visit0 : GoodIn wsX5_rankOf wsX5_visit0 := goodIn_r _ [6, 1, 7, 8, 9, 10, 11, 12, 13, 14, 15, 16, 17, 18, 19, 20, 21, 22, 23, 24, 25, 26, 27, 28, 29] (by decide +kernel) (by decide +kernel)
set_option maxRecDepth 20000 in
theorem gX5_rankOf_X5_visit0 : GoodIn wsX5_rankOf (wsV RX5 73 RX5 yX5_visit0 wsX5_visit0) := goodIn_app (goodIn_of _ (by decide +kernel)) ggX5_rankOf_X5_visit0
theorem dX5_rankOf_0 : decode cX5_rankOf 0 = .ok (.iconst 0, 1) := by decide +kernel
theorem dX5_rankOf_1 : decode cX5_rankOf 1 = .ok (.istore_n 2, 1) := by decide +kernel
theorem dX5_rankOf_2 : decode cX5_rankOf 2 = .ok (.iconst 0, 1) := by decide +kernel
theorem dX5_rankOf_3 : decode cX5_rankOf 3 = .ok (.istore_n 3, 1) := by decide +kernel
theorem dX5_rankOf_4 : decode cX5_rankOf 4 = .ok (.iload_n 3, 1) := by decide +kernel
theorem dX5_rankOf_5 : decode cX5_rankOf 5 = .ok (.aload_n 0, 1) := by decide +kernel
theorem dX5_rankOf_6 : decode cX5_rankOf 6 = .ok (.getfield 7, 3) := by decide +kernel
theorem dX5_rankOf_9 : decode cX5_rankOf 9 = .ok (.iconst 3, 1) := by decide +kernel
theorem dX5_rankOf_10 : decode cX5_rankOf 10 = .ok (.iaload, 1) := by decide +kernel
theorem dX5_rankOf_11 : decode cX5_rankOf 11 = .ok (.if_icmp .ge 47, 3) := by decide +kernel
theorem dX5_rankOf_14 : decode cX5_rankOf 14 = .ok (.aload_n 0, 1) := by decide +kernel
theorem dX5_rankOf_15 : decode cX5_rankOf 15 = .ok (.iload_n 1, 1) := by decide +kernel
theorem dX5_rankOf_16 : decode cX5_rankOf 16 = .ok (.iconst 5, 1) := by decide +kernel
theorem dX5_rankOf_17 : decode cX5_rankOf 17 = .ok (.invokevirtual 73, 3) := by decide +kernel
theorem dX5_rankOf_20 : decode cX5_rankOf 20 = .ok (.aload_n 0, 1) := by decide +kernel
theorem dX5_rankOf_21 : decode cX5_rankOf 21 = .ok (.iload_n 3, 1) := by decide +kernel
theorem dX5_rankOf_22 : decode cX5_rankOf 22 = .ok (.iconst 5, 1) := by decide +kernel
theorem dX5_rankOf_23 : decode cX5_rankOf 23 = .ok (.invokevirtual 73, 3) := by decide +kernel
theorem dX5_rankOf_26 : decode cX5_rankOf 26 = .ok (.isub, 1) := by decide +kernel
theorem dX5_rankOf_27 : decode cX5_rankOf 27 = .ok (.istore 4, 2) := by decide +kernel
theorem dX5_rankOf_29 : decode cX5_rankOf 29 = .ok (.iload_n 2, 1) := by decide +kernel
theorem dX5_rankOf_30 : decode cX5_rankOf 30 = .ok (.iload 4, 2) := by decide +kernel
theorem dX5_rankOf_32 : decode cX5_rankOf 32 = .ok (.ifCond .gt 13, 3) := by decide +kernel
theorem dX5_rankOf_35 : decode cX5_rankOf 35 = .ok (.iload 4, 2) := by decide +kernel
theorem dX5_rankOf_37 : decode cX5_rankOf 37 = .ok (.ifCond .ne 12, 3) := by decide +kernel
theorem dX5_rankOf_40 : decode cX5_rankOf 40 = .ok (.iload_n 3, 1) := by decide +kernel
theorem dX5_rankOf_41 : decode cX5_rankOf 41 = .ok (.iload_n 1, 1) := by decide +kernel
theorem dX5_rankOf_42 : decode cX5_rankOf 42 = .ok (.if_icmp .ge 7, 3) := by decide +kernel
theorem dX5_rankOf_45 : decode cX5_rankOf 45 = .ok (.iconst 1, 1) := by decide +kernel
theorem dX5_rankOf_46 : decode cX5_rankOf 46 = .ok (.goto 4, 3) := by decide +kernel
theorem dX5_rankOf_49 : decode cX5_rankOf 49 = .ok (.iconst 0, 1) := by decide +kernel
theorem dX5_rankOf_50 : decode cX5_rankOf 50 = .ok (.iadd, 1) := by decide +kernel
theorem dX5_rankOf_51 : decode cX5_rankOf 51 = .ok (.istore_n 2, 1) := by decide +kernel
theorem dX5_rankOf_52 : decode cX5_rankOf 52 = .ok (.iinc 3 1, 3) := by decide +kernel
theorem dX5_rankOf_55 : decode cX5_rankOf 55 = .ok (.goto (-51), 3) := by decide +kernel
theorem dX5_rankOf_58 : decode cX5_rankOf 58 = .ok (.iload_n 2, 1) := by decide +kernel
theorem dX5_rankOf_59 : decode cX5_rankOf 59 = .ok (.ireturn, 1) := by decide +kernel
set_option maxRecDepth 20000 in
theorem ggX5_plans_X5_van0 : GoodIn wsX5_plans wsX5_van0 := goodIn_r _ [15, 1, 58, 59, 60, 61, 62, 63, 64, 65, 66, 67, 68, 69, 70, 71, 72, 73, 74, 75, 76, 77, 78, 79, 80] (by decide +kernel) (by decide +kernel)
set_option maxRecDepth 20000 in
theorem gX5_plans_X5_van0 : GoodIn wsX5_plans (wsV RX5 69 RX5 yX5_van0 wsX5_van0) := goodIn_app (goodIn_of _ (by decide +kernel)) ggX5_plans_X5_van0
set_option maxRecDepth 20000 in
theorem ggX5_plans_X5_rankOf : GoodIn wsX5_plans wsX5_rankOf := goodIn_r _ [19, 1, 20, 21, 22, 14, 23, 58, 59, 60, 61, 62, 63, 64, 65, 66, 67, 68, 69, 70, 71, 72, 73, 74, 75, 76, 77, 78, 79, 80] (by decide +kernel) (by decide +kernel)
set_option maxRecDepth 20000 in
theorem gX5_plans_X5_rankOf : GoodIn wsX5_plans (wsV RX5 101 RX5 yX5_rankOf wsX5_rankOf) := goodIn_app (goodIn_of _ (by decide +kernel)) ggX5_plans_X5_rankOf
set_option maxRecDepth 20000 in
theorem ggX5_plans_X5_looks : GoodIn wsX5_plans wsX5_looks := goodIn_r _ [27, 28, 29, 30, 14, 31, 1, 32, 33, 34, 35, 11, 12, 13, 15, 20, 21, 22, 23, 36, 37, 38, 39, 6, 40, 41, 42, 43, 3, 44, 45, 46, 47, 2, 48, 49, 50, 51, 52, 53, 54, 55, 8, 9, 56, 57, 4, 5, 58, 59, 60, 61, 62, 63, 64, 65, 66, 67, 68, 69, 70, 71, 72, 73, 74, 75, 76, 77, 78, 79, 80] (by decide +kernel) (by decide +kernel)
set_option maxRecDepth 20000 in
theorem gX5_plans_X5_looks : GoodIn wsX5_plans (wsV RX5 104 RX5 yX5_looks wsX5_looks) := goodIn_app (goodIn_of _ (by decide +kernel)) ggX5_plans_X5_looks
theorem dX5_plans_0 : decode cX5_plans 0 = .ok (.iconst 0, 1) := by decide +kernel
theorem dX5_plans_1 : decode cX5_plans 1 = .ok (.istore_n 1, 1) := by decide +kernel
theorem dX5_plans_2 : decode cX5_plans 2 = .ok (.iload_n 1, 1) := by decide +kernel
theorem dX5_plans_3 : decode cX5_plans 3 = .ok (.aload_n 0, 1) := by decide +kernel
theorem dX5_plans_4 : decode cX5_plans 4 = .ok (.getfield 7, 3) := by decide +kernel
theorem dX5_plans_7 : decode cX5_plans 7 = .ok (.iconst 4, 1) := by decide +kernel
theorem dX5_plans_8 : decode cX5_plans 8 = .ok (.iaload, 1) := by decide +kernel
theorem dX5_plans_9 : decode cX5_plans 9 = .ok (.if_icmp .ge 73, 3) := by decide +kernel
theorem dX5_plans_12 : decode cX5_plans 12 = .ok (.aload_n 0, 1) := by decide +kernel
theorem dX5_plans_13 : decode cX5_plans 13 = .ok (.getfield 44, 3) := by decide +kernel
theorem dX5_plans_16 : decode cX5_plans 16 = .ok (.iload_n 1, 1) := by decide +kernel
theorem dX5_plans_17 : decode cX5_plans 17 = .ok (.aload_n 0, 1) := by decide +kernel
theorem dX5_plans_18 : decode cX5_plans 18 = .ok (.iload_n 1, 1) := by decide +kernel
theorem dX5_plans_19 : decode cX5_plans 19 = .ok (.iconst 0, 1) := by decide +kernel
theorem dX5_plans_20 : decode cX5_plans 20 = .ok (.invokevirtual 69, 3) := by decide +kernel
theorem dX5_plans_23 : decode cX5_plans 23 = .ok (.iastore, 1) := by decide +kernel
theorem dX5_plans_24 : decode cX5_plans 24 = .ok (.aload_n 0, 1) := by decide +kernel
theorem dX5_plans_25 : decode cX5_plans 25 = .ok (.getfield 47, 3) := by decide +kernel
theorem dX5_plans_28 : decode cX5_plans 28 = .ok (.iload_n 1, 1) := by decide +kernel
theorem dX5_plans_29 : decode cX5_plans 29 = .ok (.iconst 0, 1) := by decide +kernel
theorem dX5_plans_30 : decode cX5_plans 30 = .ok (.iastore, 1) := by decide +kernel
theorem dX5_plans_31 : decode cX5_plans 31 = .ok (.aload_n 0, 1) := by decide +kernel
theorem dX5_plans_32 : decode cX5_plans 32 = .ok (.getfield 53, 3) := by decide +kernel
theorem dX5_plans_35 : decode cX5_plans 35 = .ok (.iload_n 1, 1) := by decide +kernel
theorem dX5_plans_36 : decode cX5_plans 36 = .ok (.iconst 0, 1) := by decide +kernel
theorem dX5_plans_37 : decode cX5_plans 37 = .ok (.iastore, 1) := by decide +kernel
theorem dX5_plans_38 : decode cX5_plans 38 = .ok (.aload_n 0, 1) := by decide +kernel
theorem dX5_plans_39 : decode cX5_plans 39 = .ok (.getfield 56, 3) := by decide +kernel
theorem dX5_plans_42 : decode cX5_plans 42 = .ok (.iload_n 1, 1) := by decide +kernel
theorem dX5_plans_43 : decode cX5_plans 43 = .ok (.iconst 0, 1) := by decide +kernel
theorem dX5_plans_44 : decode cX5_plans 44 = .ok (.iastore, 1) := by decide +kernel
theorem dX5_plans_45 : decode cX5_plans 45 = .ok (.iconst 0, 1) := by decide +kernel
theorem dX5_plans_46 : decode cX5_plans 46 = .ok (.istore_n 2, 1) := by decide +kernel
theorem dX5_plans_47 : decode cX5_plans 47 = .ok (.iload_n 2, 1) := by decide +kernel
theorem dX5_plans_48 : decode cX5_plans 48 = .ok (.iconst 5, 1) := by decide +kernel
theorem dX5_plans_49 : decode cX5_plans 49 = .ok (.if_icmp .ge 27, 3) := by decide +kernel
theorem dX5_plans_52 : decode cX5_plans 52 = .ok (.aload_n 0, 1) := by decide +kernel
theorem dX5_plans_53 : decode cX5_plans 53 = .ok (.getfield 50, 3) := by decide +kernel
theorem dX5_plans_56 : decode cX5_plans 56 = .ok (.iconst 5, 1) := by decide +kernel
theorem dX5_plans_57 : decode cX5_plans 57 = .ok (.iload_n 1, 1) := by decide +kernel
theorem dX5_plans_58 : decode cX5_plans 58 = .ok (.imul, 1) := by decide +kernel
theorem dX5_plans_59 : decode cX5_plans 59 = .ok (.iload_n 2, 1) := by decide +kernel
theorem dX5_plans_60 : decode cX5_plans 60 = .ok (.iadd, 1) := by decide +kernel
theorem dX5_plans_61 : decode cX5_plans 61 = .ok (.aload_n 0, 1) := by decide +kernel
theorem dX5_plans_62 : decode cX5_plans 62 = .ok (.iload_n 1, 1) := by decide +kernel
theorem dX5_plans_63 : decode cX5_plans 63 = .ok (.iconst 2, 1) := by decide +kernel
theorem dX5_plans_64 : decode cX5_plans 64 = .ok (.iload_n 2, 1) := by decide +kernel
theorem dX5_plans_65 : decode cX5_plans 65 = .ok (.iadd, 1) := by decide +kernel
theorem dX5_plans_66 : decode cX5_plans 66 = .ok (.invokevirtual 69, 3) := by decide +kernel
theorem dX5_plans_69 : decode cX5_plans 69 = .ok (.iastore, 1) := by decide +kernel
theorem dX5_plans_70 : decode cX5_plans 70 = .ok (.iinc 2 1, 3) := by decide +kernel
theorem dX5_plans_73 : decode cX5_plans 73 = .ok (.goto (-26), 3) := by decide +kernel
theorem dX5_plans_76 : decode cX5_plans 76 = .ok (.iinc 1 1, 3) := by decide +kernel
theorem dX5_plans_79 : decode cX5_plans 79 = .ok (.goto (-77), 3) := by decide +kernel
theorem dX5_plans_82 : decode cX5_plans 82 = .ok (.iconst 0, 1) := by decide +kernel
theorem dX5_plans_83 : decode cX5_plans 83 = .ok (.istore_n 1, 1) := by decide +kernel
theorem dX5_plans_84 : decode cX5_plans 84 = .ok (.iload_n 1, 1) := by decide +kernel
theorem dX5_plans_85 : decode cX5_plans 85 = .ok (.aload_n 0, 1) := by decide +kernel
theorem dX5_plans_86 : decode cX5_plans 86 = .ok (.getfield 7, 3) := by decide +kernel
theorem dX5_plans_89 : decode cX5_plans 89 = .ok (.iconst 3, 1) := by decide +kernel
theorem dX5_plans_90 : decode cX5_plans 90 = .ok (.iaload, 1) := by decide +kernel
theorem dX5_plans_91 : decode cX5_plans 91 = .ok (.if_icmp .ge 36, 3) := by decide +kernel
theorem dX5_plans_94 : decode cX5_plans 94 = .ok (.aload_n 0, 1) := by decide +kernel
theorem dX5_plans_95 : decode cX5_plans 95 = .ok (.getfield 26, 3) := by decide +kernel
theorem dX5_plans_98 : decode cX5_plans 98 = .ok (.aload_n 0, 1) := by decide +kernel
theorem dX5_plans_99 : decode cX5_plans 99 = .ok (.iload_n 1, 1) := by decide +kernel
theorem dX5_plans_100 : decode cX5_plans 100 = .ok (.invokevirtual 101, 3) := by decide +kernel
theorem dX5_plans_103 : decode cX5_plans 103 = .ok (.iload_n 1, 1) := by decide +kernel
theorem dX5_plans_104 : decode cX5_plans 104 = .ok (.iastore, 1) := by decide +kernel
theorem dX5_plans_105 : decode cX5_plans 105 = .ok (.aload_n 0, 1) := by decide +kernel
theorem dX5_plans_106 : decode cX5_plans 106 = .ok (.getfield 32, 3) := by decide +kernel
theorem dX5_plans_109 : decode cX5_plans 109 = .ok (.iload_n 1, 1) := by decide +kernel
theorem dX5_plans_110 : decode cX5_plans 110 = .ok (.bipush (-6), 2) := by decide +kernel
theorem dX5_plans_112 : decode cX5_plans 112 = .ok (.iastore, 1) := by decide +kernel
theorem dX5_plans_113 : decode cX5_plans 113 = .ok (.aload_n 0, 1) := by decide +kernel
theorem dX5_plans_114 : decode cX5_plans 114 = .ok (.getfield 35, 3) := by decide +kernel
theorem dX5_plans_117 : decode cX5_plans 117 = .ok (.iload_n 1, 1) := by decide +kernel
theorem dX5_plans_118 : decode cX5_plans 118 = .ok (.bipush (-6), 2) := by decide +kernel
theorem dX5_plans_120 : decode cX5_plans 120 = .ok (.iastore, 1) := by decide +kernel
theorem dX5_plans_121 : decode cX5_plans 121 = .ok (.iinc 1 1, 3) := by decide +kernel
theorem dX5_plans_124 : decode cX5_plans 124 = .ok (.goto (-40), 3) := by decide +kernel
theorem dX5_plans_127 : decode cX5_plans 127 = .ok (.iconst 0, 1) := by decide +kernel
theorem dX5_plans_128 : decode cX5_plans 128 = .ok (.istore_n 1, 1) := by decide +kernel
theorem dX5_plans_129 : decode cX5_plans 129 = .ok (.iload_n 1, 1) := by decide +kernel
theorem dX5_plans_130 : decode cX5_plans 130 = .ok (.aload_n 0, 1) := by decide +kernel
theorem dX5_plans_131 : decode cX5_plans 131 = .ok (.getfield 7, 3) := by decide +kernel
theorem dX5_plans_134 : decode cX5_plans 134 = .ok (.iconst 3, 1) := by decide +kernel
theorem dX5_plans_135 : decode cX5_plans 135 = .ok (.iaload, 1) := by decide +kernel
theorem dX5_plans_136 : decode cX5_plans 136 = .ok (.if_icmp .ge 32, 3) := by decide +kernel
theorem dX5_plans_139 : decode cX5_plans 139 = .ok (.aload_n 0, 1) := by decide +kernel
theorem dX5_plans_140 : decode cX5_plans 140 = .ok (.getfield 29, 3) := by decide +kernel
theorem dX5_plans_143 : decode cX5_plans 143 = .ok (.aload_n 0, 1) := by decide +kernel
theorem dX5_plans_144 : decode cX5_plans 144 = .ok (.getfield 26, 3) := by decide +kernel
theorem dX5_plans_147 : decode cX5_plans 147 = .ok (.iload_n 1, 1) := by decide +kernel
theorem dX5_plans_148 : decode cX5_plans 148 = .ok (.iaload, 1) := by decide +kernel
theorem dX5_plans_149 : decode cX5_plans 149 = .ok (.aload_n 0, 1) := by decide +kernel
theorem dX5_plans_150 : decode cX5_plans 150 = .ok (.aload_n 0, 1) := by decide +kernel
theorem dX5_plans_151 : decode cX5_plans 151 = .ok (.getfield 26, 3) := by decide +kernel
theorem dX5_plans_154 : decode cX5_plans 154 = .ok (.iload_n 1, 1) := by decide +kernel
theorem dX5_plans_155 : decode cX5_plans 155 = .ok (.iaload, 1) := by decide +kernel
theorem dX5_plans_156 : decode cX5_plans 156 = .ok (.iconst 0, 1) := by decide +kernel
theorem dX5_plans_157 : decode cX5_plans 157 = .ok (.iconst 0, 1) := by decide +kernel
theorem dX5_plans_158 : decode cX5_plans 158 = .ok (.invokevirtual 104, 3) := by decide +kernel
theorem dX5_plans_161 : decode cX5_plans 161 = .ok (.iastore, 1) := by decide +kernel
theorem dX5_plans_162 : decode cX5_plans 162 = .ok (.iinc 1 1, 3) := by decide +kernel
theorem dX5_plans_165 : decode cX5_plans 165 = .ok (.goto (-36), 3) := by decide +kernel
theorem dX5_plans_168 : decode cX5_plans 168 = .ok (.iconst 0, 1) := by decide +kernel
theorem dX5_plans_169 : decode cX5_plans 169 = .ok (.istore_n 1, 1) := by decide +kernel
theorem dX5_plans_170 : decode cX5_plans 170 = .ok (.iload_n 1, 1) := by decide +kernel
theorem dX5_plans_171 : decode cX5_plans 171 = .ok (.aload_n 0, 1) := by decide +kernel
theorem dX5_plans_172 : decode cX5_plans 172 = .ok (.getfield 7, 3) := by decide +kernel
theorem dX5_plans_175 : decode cX5_plans 175 = .ok (.iconst 3, 1) := by decide +kernel
theorem dX5_plans_176 : decode cX5_plans 176 = .ok (.iaload, 1) := by decide +kernel
theorem dX5_plans_177 : decode cX5_plans 177 = .ok (.if_icmp .ge 52, 3) := by decide +kernel
theorem dX5_plans_180 : decode cX5_plans 180 = .ok (.aload_n 0, 1) := by decide +kernel
theorem dX5_plans_181 : decode cX5_plans 181 = .ok (.getfield 29, 3) := by decide +kernel
theorem dX5_plans_184 : decode cX5_plans 184 = .ok (.aload_n 0, 1) := by decide +kernel
theorem dX5_plans_185 : decode cX5_plans 185 = .ok (.getfield 26, 3) := by decide +kernel
theorem dX5_plans_188 : decode cX5_plans 188 = .ok (.iload_n 1, 1) := by decide +kernel
theorem dX5_plans_189 : decode cX5_plans 189 = .ok (.iaload, 1) := by decide +kernel
theorem dX5_plans_190 : decode cX5_plans 190 = .ok (.iaload, 1) := by decide +kernel
theorem dX5_plans_191 : decode cX5_plans 191 = .ok (.iconst 4, 1) := by decide +kernel
theorem dX5_plans_192 : decode cX5_plans 192 = .ok (.if_icmp .ne 31, 3) := by decide +kernel
theorem dX5_plans_195 : decode cX5_plans 195 = .ok (.aload_n 0, 1) := by decide +kernel
theorem dX5_plans_196 : decode cX5_plans 196 = .ok (.getfield 29, 3) := by decide +kernel
theorem dX5_plans_199 : decode cX5_plans 199 = .ok (.aload_n 0, 1) := by decide +kernel
theorem dX5_plans_200 : decode cX5_plans 200 = .ok (.getfield 26, 3) := by decide +kernel
theorem dX5_plans_203 : decode cX5_plans 203 = .ok (.iload_n 1, 1) := by decide +kernel
theorem dX5_plans_204 : decode cX5_plans 204 = .ok (.iaload, 1) := by decide +kernel
theorem dX5_plans_205 : decode cX5_plans 205 = .ok (.aload_n 0, 1) := by decide +kernel
theorem dX5_plans_206 : decode cX5_plans 206 = .ok (.aload_n 0, 1) := by decide +kernel
theorem dX5_plans_207 : decode cX5_plans 207 = .ok (.getfield 26, 3) := by decide +kernel
theorem dX5_plans_210 : decode cX5_plans 210 = .ok (.iload_n 1, 1) := by decide +kernel
theorem dX5_plans_211 : decode cX5_plans 211 = .ok (.iaload, 1) := by decide +kernel
theorem dX5_plans_212 : decode cX5_plans 212 = .ok (.aload_n 0, 1) := by decide +kernel
theorem dX5_plans_213 : decode cX5_plans 213 = .ok (.getfield 7, 3) := by decide +kernel
theorem dX5_plans_216 : decode cX5_plans 216 = .ok (.iconst 2, 1) := by decide +kernel
theorem dX5_plans_217 : decode cX5_plans 217 = .ok (.iaload, 1) := by decide +kernel
theorem dX5_plans_218 : decode cX5_plans 218 = .ok (.iconst 1, 1) := by decide +kernel
theorem dX5_plans_219 : decode cX5_plans 219 = .ok (.invokevirtual 104, 3) := by decide +kernel
theorem dX5_plans_222 : decode cX5_plans 222 = .ok (.iastore, 1) := by decide +kernel
theorem dX5_plans_223 : decode cX5_plans 223 = .ok (.iinc 1 1, 3) := by decide +kernel
theorem dX5_plans_226 : decode cX5_plans 226 = .ok (.goto (-56), 3) := by decide +kernel
theorem dX5_plans_229 : decode cX5_plans 229 = .ok (.return_, 1) := by decide +kernel
set_option maxRecDepth 20000 in
theorem ggX5_withPromise_X5_in : GoodIn wsX5_withPromise wsX5_in := goodIn_r _ [6] (by decide +kernel) (by decide +kernel)
set_option maxRecDepth 20000 in
theorem gX5_withPromise_X5_in : GoodIn wsX5_withPromise (va_wsS RX5 107 yX5_in wsX5_in) := goodIn_app (goodIn_of _ (by decide +kernel)) ggX5_withPromise_X5_in
theorem dX5_withPromise_0 : decode cX5_withPromise 0 = .ok (.iconst 0, 1) := by decide +kernel
theorem dX5_withPromise_1 : decode cX5_withPromise 1 = .ok (.istore_n 3, 1) := by decide +kernel
theorem dX5_withPromise_2 : decode cX5_withPromise 2 = .ok (.iconst 0, 1) := by decide +kernel
theorem dX5_withPromise_3 : decode cX5_withPromise 3 = .ok (.istore 4, 2) := by decide +kernel
theorem dX5_withPromise_5 : decode cX5_withPromise 5 = .ok (.iload 4, 2) := by decide +kernel
theorem dX5_withPromise_7 : decode cX5_withPromise 7 = .ok (.aload_n 0, 1) := by decide +kernel
theorem dX5_withPromise_8 : decode cX5_withPromise 8 = .ok (.getfield 7, 3) := by decide +kernel
theorem dX5_withPromise_11 : decode cX5_withPromise 11 = .ok (.iconst 3, 1) := by decide +kernel
theorem dX5_withPromise_12 : decode cX5_withPromise 12 = .ok (.iaload, 1) := by decide +kernel
theorem dX5_withPromise_13 : decode cX5_withPromise 13 = .ok (.if_icmp .ge 32, 3) := by decide +kernel
theorem dX5_withPromise_16 : decode cX5_withPromise 16 = .ok (.iload_n 3, 1) := by decide +kernel
theorem dX5_withPromise_17 : decode cX5_withPromise 17 = .ok (.aload_n 0, 1) := by decide +kernel
theorem dX5_withPromise_18 : decode cX5_withPromise 18 = .ok (.getfield 29, 3) := by decide +kernel
theorem dX5_withPromise_21 : decode cX5_withPromise 21 = .ok (.iload 4, 2) := by decide +kernel
theorem dX5_withPromise_23 : decode cX5_withPromise 23 = .ok (.iaload, 1) := by decide +kernel
theorem dX5_withPromise_24 : decode cX5_withPromise 24 = .ok (.iload_n 1, 1) := by decide +kernel
theorem dX5_withPromise_25 : decode cX5_withPromise 25 = .ok (.iload_n 2, 1) := by decide +kernel
theorem dX5_withPromise_26 : decode cX5_withPromise 26 = .ok (.invokestatic 107, 3) := by decide +kernel
theorem dX5_withPromise_29 : decode cX5_withPromise 29 = .ok (.ifCond .eq 7, 3) := by decide +kernel
theorem dX5_withPromise_32 : decode cX5_withPromise 32 = .ok (.iconst 1, 1) := by decide +kernel
theorem dX5_withPromise_33 : decode cX5_withPromise 33 = .ok (.goto 4, 3) := by decide +kernel
theorem dX5_withPromise_36 : decode cX5_withPromise 36 = .ok (.iconst 0, 1) := by decide +kernel
theorem dX5_withPromise_37 : decode cX5_withPromise 37 = .ok (.iadd, 1) := by decide +kernel
theorem dX5_withPromise_38 : decode cX5_withPromise 38 = .ok (.istore_n 3, 1) := by decide +kernel
theorem dX5_withPromise_39 : decode cX5_withPromise 39 = .ok (.iinc 4 1, 3) := by decide +kernel
theorem dX5_withPromise_42 : decode cX5_withPromise 42 = .ok (.goto (-37), 3) := by decide +kernel
theorem dX5_withPromise_45 : decode cX5_withPromise 45 = .ok (.iload_n 3, 1) := by decide +kernel
theorem dX5_withPromise_46 : decode cX5_withPromise 46 = .ok (.ireturn, 1) := by decide +kernel
set_option maxRecDepth 20000 in
theorem ggX5_isSetting_X5_in : GoodIn wsX5_isSetting wsX5_in := goodIn_r _ [4] (by decide +kernel) (by decide +kernel)
set_option maxRecDepth 20000 in
theorem gX5_isSetting_X5_in : GoodIn wsX5_isSetting (va_wsS RX5 107 yX5_in wsX5_in) := goodIn_app (goodIn_of _ (by decide +kernel)) ggX5_isSetting_X5_in
theorem dX5_isSetting_0 : decode cX5_isSetting 0 = .ok (.iload_n 0, 1) := by decide +kernel
theorem dX5_isSetting_1 : decode cX5_isSetting 1 = .ok (.tableswitch 52 0 2 #[27, 35, 43], 27) := by decide +kernel
theorem dX5_isSetting_28 : decode cX5_isSetting 28 = .ok (.iload_n 1, 1) := by decide +kernel
theorem dX5_isSetting_29 : decode cX5_isSetting 29 = .ok (.iconst 1, 1) := by decide +kernel
theorem dX5_isSetting_30 : decode cX5_isSetting 30 = .ok (.bipush 9, 2) := by decide +kernel
theorem dX5_isSetting_32 : decode cX5_isSetting 32 = .ok (.invokestatic 107, 3) := by decide +kernel
theorem dX5_isSetting_35 : decode cX5_isSetting 35 = .ok (.ireturn, 1) := by decide +kernel
theorem dX5_isSetting_36 : decode cX5_isSetting 36 = .ok (.iload_n 1, 1) := by decide +kernel
theorem dX5_isSetting_37 : decode cX5_isSetting 37 = .ok (.iconst 1, 1) := by decide +kernel
theorem dX5_isSetting_38 : decode cX5_isSetting 38 = .ok (.bipush 120, 2) := by decide +kernel
theorem dX5_isSetting_40 : decode cX5_isSetting 40 = .ok (.invokestatic 107, 3) := by decide +kernel
theorem dX5_isSetting_43 : decode cX5_isSetting 43 = .ok (.ireturn, 1) := by decide +kernel
theorem dX5_isSetting_44 : decode cX5_isSetting 44 = .ok (.iload_n 1, 1) := by decide +kernel
theorem dX5_isSetting_45 : decode cX5_isSetting 45 = .ok (.iconst 0, 1) := by decide +kernel
theorem dX5_isSetting_46 : decode cX5_isSetting 46 = .ok (.sipush 300, 3) := by decide +kernel
theorem dX5_isSetting_49 : decode cX5_isSetting 49 = .ok (.invokestatic 107, 3) := by decide +kernel
theorem dX5_isSetting_52 : decode cX5_isSetting 52 = .ok (.ireturn, 1) := by decide +kernel
theorem dX5_isSetting_53 : decode cX5_isSetting 53 = .ok (.iconst 0, 1) := by decide +kernel
theorem dX5_isSetting_54 : decode cX5_isSetting 54 = .ok (.ireturn, 1) := by decide +kernel
set_option maxRecDepth 20000 in
theorem ggX5_set_X5_isSetting : GoodIn wsX5_set wsX5_isSetting := goodIn_r _ [6, 7, 8, 5, 9] (by decide +kernel) (by decide +kernel)
set_option maxRecDepth 20000 in
theorem gX5_set_X5_isSetting : GoodIn wsX5_set (va_wsS RX5 111 yX5_isSetting wsX5_isSetting) := goodIn_app (goodIn_of _ (by decide +kernel)) ggX5_set_X5_isSetting
set_option maxRecDepth 20000 in
theorem ggX5_set_X5_records : GoodIn wsX5_set wsX5_records := goodIn_r _ [13, 14, 15, 2, 16, 17, 18, 19, 20, 21, 22, 23, 24, 25, 26, 27, 28, 29, 30, 31, 32, 33, 34, 35, 36, 37, 38] (by decide +kernel) (by decide +kernel)
set_option maxRecDepth 20000 in
theorem gX5_set_X5_records : GoodIn wsX5_set (wsV RX5 114 RX5 yX5_records wsX5_records) := goodIn_app (goodIn_of _ (by decide +kernel)) ggX5_set_X5_records
theorem dX5_set_0 : decode cX5_set 0 = .ok (.aload_n 0, 1) := by decide +kernel
theorem dX5_set_1 : decode cX5_set 1 = .ok (.iconst 0, 1) := by decide +kernel
theorem dX5_set_2 : decode cX5_set 2 = .ok (.putfield 62, 3) := by decide +kernel
theorem dX5_set_5 : decode cX5_set 5 = .ok (.iload_n 1, 1) := by decide +kernel
theorem dX5_set_6 : decode cX5_set 6 = .ok (.iload_n 2, 1) := by decide +kernel
theorem dX5_set_7 : decode cX5_set 7 = .ok (.invokestatic 111, 3) := by decide +kernel
theorem dX5_set_10 : decode cX5_set 10 = .ok (.ifCond .ne 6, 3) := by decide +kernel
theorem dX5_set_13 : decode cX5_set 13 = .ok (.bipush (-2), 2) := by decide +kernel
theorem dX5_set_15 : decode cX5_set 15 = .ok (.ireturn, 1) := by decide +kernel
theorem dX5_set_16 : decode cX5_set 16 = .ok (.aload_n 0, 1) := by decide +kernel
theorem dX5_set_17 : decode cX5_set 17 = .ok (.invokevirtual 114, 3) := by decide +kernel
theorem dX5_set_20 : decode cX5_set 20 = .ok (.aload_n 0, 1) := by decide +kernel
theorem dX5_set_21 : decode cX5_set 21 = .ok (.getfield 7, 3) := by decide +kernel
theorem dX5_set_24 : decode cX5_set 24 = .ok (.iload_n 1, 1) := by decide +kernel
theorem dX5_set_25 : decode cX5_set 25 = .ok (.iaload, 1) := by decide +kernel
theorem dX5_set_26 : decode cX5_set 26 = .ok (.istore_n 3, 1) := by decide +kernel
theorem dX5_set_27 : decode cX5_set 27 = .ok (.aload_n 0, 1) := by decide +kernel
theorem dX5_set_28 : decode cX5_set 28 = .ok (.getfield 7, 3) := by decide +kernel
theorem dX5_set_31 : decode cX5_set 31 = .ok (.iload_n 1, 1) := by decide +kernel
theorem dX5_set_32 : decode cX5_set 32 = .ok (.iload_n 2, 1) := by decide +kernel
theorem dX5_set_33 : decode cX5_set 33 = .ok (.iastore, 1) := by decide +kernel
theorem dX5_set_34 : decode cX5_set 34 = .ok (.iload_n 3, 1) := by decide +kernel
theorem dX5_set_35 : decode cX5_set 35 = .ok (.ireturn, 1) := by decide +kernel
set_option maxRecDepth 20000 in
theorem ggX5_refuses_X5_in : GoodIn wsX5_refuses wsX5_in := goodIn_r _ [4] (by decide +kernel) (by decide +kernel)
set_option maxRecDepth 20000 in
theorem gX5_refuses_X5_in : GoodIn wsX5_refuses (va_wsS RX5 107 yX5_in wsX5_in) := goodIn_app (goodIn_of _ (by decide +kernel)) ggX5_refuses_X5_in
theorem dX5_refuses_0 : decode cX5_refuses 0 = .ok (.iload_n 1, 1) := by decide +kernel
theorem dX5_refuses_1 : decode cX5_refuses 1 = .ok (.iconst 0, 1) := by decide +kernel
theorem dX5_refuses_2 : decode cX5_refuses 2 = .ok (.iconst 3, 1) := by decide +kernel
theorem dX5_refuses_3 : decode cX5_refuses 3 = .ok (.invokestatic 107, 3) := by decide +kernel
theorem dX5_refuses_6 : decode cX5_refuses 6 = .ok (.ifCond .eq 12, 3) := by decide +kernel
theorem dX5_refuses_9 : decode cX5_refuses 9 = .ok (.iload_n 2, 1) := by decide +kernel
theorem dX5_refuses_10 : decode cX5_refuses 10 = .ok (.iconst 0, 1) := by decide +kernel
theorem dX5_refuses_11 : decode cX5_refuses 11 = .ok (.iconst 4, 1) := by decide +kernel
theorem dX5_refuses_12 : decode cX5_refuses 12 = .ok (.invokestatic 107, 3) := by decide +kernel
theorem dX5_refuses_15 : decode cX5_refuses 15 = .ok (.ifCond .ne 5, 3) := by decide +kernel
theorem dX5_refuses_18 : decode cX5_refuses 18 = .ok (.iconst (-1), 1) := by decide +kernel
theorem dX5_refuses_19 : decode cX5_refuses 19 = .ok (.ireturn, 1) := by decide +kernel
theorem dX5_refuses_20 : decode cX5_refuses 20 = .ok (.iload_n 0, 1) := by decide +kernel
theorem dX5_refuses_21 : decode cX5_refuses 21 = .ok (.iconst 0, 1) := by decide +kernel
theorem dX5_refuses_22 : decode cX5_refuses 22 = .ok (.bipush 99, 2) := by decide +kernel
theorem dX5_refuses_24 : decode cX5_refuses 24 = .ok (.invokestatic 107, 3) := by decide +kernel
theorem dX5_refuses_27 : decode cX5_refuses 27 = .ok (.ifCond .eq 42, 3) := by decide +kernel
theorem dX5_refuses_30 : decode cX5_refuses 30 = .ok (.iload_n 3, 1) := by decide +kernel
theorem dX5_refuses_31 : decode cX5_refuses 31 = .ok (.iconst 0, 1) := by decide +kernel
theorem dX5_refuses_32 : decode cX5_refuses 32 = .ok (.bipush 9, 2) := by decide +kernel
theorem dX5_refuses_34 : decode cX5_refuses 34 = .ok (.invokestatic 107, 3) := by decide +kernel
theorem dX5_refuses_37 : decode cX5_refuses 37 = .ok (.ifCond .eq 32, 3) := by decide +kernel
theorem dX5_refuses_40 : decode cX5_refuses 40 = .ok (.iload 4, 2) := by decide +kernel
theorem dX5_refuses_42 : decode cX5_refuses 42 = .ok (.iconst 0, 1) := by decide +kernel
theorem dX5_refuses_43 : decode cX5_refuses 43 = .ok (.sipush 999, 3) := by decide +kernel
theorem dX5_refuses_46 : decode cX5_refuses 46 = .ok (.invokestatic 107, 3) := by decide +kernel
theorem dX5_refuses_49 : decode cX5_refuses 49 = .ok (.ifCond .eq 20, 3) := by decide +kernel
theorem dX5_refuses_52 : decode cX5_refuses 52 = .ok (.iload 5, 2) := by decide +kernel
theorem dX5_refuses_54 : decode cX5_refuses 54 = .ok (.iload 4, 2) := by decide +kernel
theorem dX5_refuses_56 : decode cX5_refuses 56 = .ok (.sipush 999, 3) := by decide +kernel
theorem dX5_refuses_59 : decode cX5_refuses 59 = .ok (.invokestatic 107, 3) := by decide +kernel
theorem dX5_refuses_62 : decode cX5_refuses 62 = .ok (.ifCond .eq 7, 3) := by decide +kernel
theorem dX5_refuses_65 : decode cX5_refuses 65 = .ok (.iconst 0, 1) := by decide +kernel
theorem dX5_refuses_66 : decode cX5_refuses 66 = .ok (.goto 5, 3) := by decide +kernel
theorem dX5_refuses_69 : decode cX5_refuses 69 = .ok (.bipush (-2), 2) := by decide +kernel
theorem dX5_refuses_71 : decode cX5_refuses 71 = .ok (.ireturn, 1) := by decide +kernel
set_option maxRecDepth 20000 in
theorem ggX5_refusesVisit_X5_refuses : GoodIn wsX5_refusesVisit wsX5_refuses := goodIn_r _ [5, 6, 7, 4, 8] (by decide +kernel) (by decide +kernel)
set_option maxRecDepth 20000 in
theorem gX5_refusesVisit_X5_refuses : GoodIn wsX5_refusesVisit (va_wsS RX5 117 yX5_refuses wsX5_refuses) := goodIn_app (goodIn_of _ (by decide +kernel)) ggX5_refusesVisit_X5_refuses
theorem dX5_refusesVisit_0 : decode cX5_refusesVisit 0 = .ok (.iload_n 1, 1) := by decide +kernel
theorem dX5_refusesVisit_1 : decode cX5_refusesVisit 1 = .ok (.iload_n 2, 1) := by decide +kernel
theorem dX5_refusesVisit_2 : decode cX5_refusesVisit 2 = .ok (.iload_n 3, 1) := by decide +kernel
theorem dX5_refusesVisit_3 : decode cX5_refusesVisit 3 = .ok (.iload 4, 2) := by decide +kernel
theorem dX5_refusesVisit_5 : decode cX5_refusesVisit 5 = .ok (.iload 5, 2) := by decide +kernel
theorem dX5_refusesVisit_7 : decode cX5_refusesVisit 7 = .ok (.iload 6, 2) := by decide +kernel
theorem dX5_refusesVisit_9 : decode cX5_refusesVisit 9 = .ok (.invokestatic 117, 3) := by decide +kernel
theorem dX5_refusesVisit_12 : decode cX5_refusesVisit 12 = .ok (.istore 7, 2) := by decide +kernel
theorem dX5_refusesVisit_14 : decode cX5_refusesVisit 14 = .ok (.iload 7, 2) := by decide +kernel
theorem dX5_refusesVisit_16 : decode cX5_refusesVisit 16 = .ok (.ifCond .eq 8, 3) := by decide +kernel
theorem dX5_refusesVisit_19 : decode cX5_refusesVisit 19 = .ok (.iload 7, 2) := by decide +kernel
theorem dX5_refusesVisit_21 : decode cX5_refusesVisit 21 = .ok (.goto 20, 3) := by decide +kernel
theorem dX5_refusesVisit_24 : decode cX5_refusesVisit 24 = .ok (.aload_n 0, 1) := by decide +kernel
theorem dX5_refusesVisit_25 : decode cX5_refusesVisit 25 = .ok (.getfield 7, 3) := by decide +kernel
theorem dX5_refusesVisit_28 : decode cX5_refusesVisit 28 = .ok (.iconst 3, 1) := by decide +kernel
theorem dX5_refusesVisit_29 : decode cX5_refusesVisit 29 = .ok (.iaload, 1) := by decide +kernel
theorem dX5_refusesVisit_30 : decode cX5_refusesVisit 30 = .ok (.bipush 20, 2) := by decide +kernel
theorem dX5_refusesVisit_32 : decode cX5_refusesVisit 32 = .ok (.if_icmp .ne 8, 3) := by decide +kernel
theorem dX5_refusesVisit_35 : decode cX5_refusesVisit 35 = .ok (.bipush (-4), 2) := by decide +kernel
theorem dX5_refusesVisit_37 : decode cX5_refusesVisit 37 = .ok (.goto 4, 3) := by decide +kernel
theorem dX5_refusesVisit_40 : decode cX5_refusesVisit 40 = .ok (.iconst 0, 1) := by decide +kernel
theorem dX5_refusesVisit_41 : decode cX5_refusesVisit 41 = .ok (.ireturn, 1) := by decide +kernel
theorem dX5_laysVisit_0 : decode cX5_laysVisit 0 = .ok (.bipush 33, 2) := by decide +kernel
theorem dX5_laysVisit_2 : decode cX5_laysVisit 2 = .ok (.bipush 6, 2) := by decide +kernel
theorem dX5_laysVisit_4 : decode cX5_laysVisit 4 = .ok (.aload_n 0, 1) := by decide +kernel
theorem dX5_laysVisit_5 : decode cX5_laysVisit 5 = .ok (.getfield 7, 3) := by decide +kernel
theorem dX5_laysVisit_8 : decode cX5_laysVisit 8 = .ok (.iconst 3, 1) := by decide +kernel
theorem dX5_laysVisit_9 : decode cX5_laysVisit 9 = .ok (.iaload, 1) := by decide +kernel
theorem dX5_laysVisit_10 : decode cX5_laysVisit 10 = .ok (.imul, 1) := by decide +kernel
theorem dX5_laysVisit_11 : decode cX5_laysVisit 11 = .ok (.iadd, 1) := by decide +kernel
theorem dX5_laysVisit_12 : decode cX5_laysVisit 12 = .ok (.istore 7, 2) := by decide +kernel
theorem dX5_laysVisit_14 : decode cX5_laysVisit 14 = .ok (.aload_n 0, 1) := by decide +kernel
theorem dX5_laysVisit_15 : decode cX5_laysVisit 15 = .ok (.getfield 7, 3) := by decide +kernel
theorem dX5_laysVisit_18 : decode cX5_laysVisit 18 = .ok (.iload 7, 2) := by decide +kernel
theorem dX5_laysVisit_20 : decode cX5_laysVisit 20 = .ok (.iconst 0, 1) := by decide +kernel
theorem dX5_laysVisit_21 : decode cX5_laysVisit 21 = .ok (.iadd, 1) := by decide +kernel
theorem dX5_laysVisit_22 : decode cX5_laysVisit 22 = .ok (.iload_n 1, 1) := by decide +kernel
theorem dX5_laysVisit_23 : decode cX5_laysVisit 23 = .ok (.iastore, 1) := by decide +kernel
theorem dX5_laysVisit_24 : decode cX5_laysVisit 24 = .ok (.aload_n 0, 1) := by decide +kernel
theorem dX5_laysVisit_25 : decode cX5_laysVisit 25 = .ok (.getfield 7, 3) := by decide +kernel
theorem dX5_laysVisit_28 : decode cX5_laysVisit 28 = .ok (.iload 7, 2) := by decide +kernel
theorem dX5_laysVisit_30 : decode cX5_laysVisit 30 = .ok (.iconst 1, 1) := by decide +kernel
theorem dX5_laysVisit_31 : decode cX5_laysVisit 31 = .ok (.iadd, 1) := by decide +kernel
theorem dX5_laysVisit_32 : decode cX5_laysVisit 32 = .ok (.iload_n 2, 1) := by decide +kernel
theorem dX5_laysVisit_33 : decode cX5_laysVisit 33 = .ok (.iastore, 1) := by decide +kernel
theorem dX5_laysVisit_34 : decode cX5_laysVisit 34 = .ok (.aload_n 0, 1) := by decide +kernel
theorem dX5_laysVisit_35 : decode cX5_laysVisit 35 = .ok (.getfield 7, 3) := by decide +kernel
theorem dX5_laysVisit_38 : decode cX5_laysVisit 38 = .ok (.iload 7, 2) := by decide +kernel
theorem dX5_laysVisit_40 : decode cX5_laysVisit 40 = .ok (.iconst 2, 1) := by decide +kernel
theorem dX5_laysVisit_41 : decode cX5_laysVisit 41 = .ok (.iadd, 1) := by decide +kernel
theorem dX5_laysVisit_42 : decode cX5_laysVisit 42 = .ok (.iload_n 3, 1) := by decide +kernel
theorem dX5_laysVisit_43 : decode cX5_laysVisit 43 = .ok (.iastore, 1) := by decide +kernel
theorem dX5_laysVisit_44 : decode cX5_laysVisit 44 = .ok (.aload_n 0, 1) := by decide +kernel
theorem dX5_laysVisit_45 : decode cX5_laysVisit 45 = .ok (.getfield 7, 3) := by decide +kernel
theorem dX5_laysVisit_48 : decode cX5_laysVisit 48 = .ok (.iload 7, 2) := by decide +kernel
theorem dX5_laysVisit_50 : decode cX5_laysVisit 50 = .ok (.iconst 3, 1) := by decide +kernel
theorem dX5_laysVisit_51 : decode cX5_laysVisit 51 = .ok (.iadd, 1) := by decide +kernel
theorem dX5_laysVisit_52 : decode cX5_laysVisit 52 = .ok (.iload 4, 2) := by decide +kernel
theorem dX5_laysVisit_54 : decode cX5_laysVisit 54 = .ok (.iastore, 1) := by decide +kernel
theorem dX5_laysVisit_55 : decode cX5_laysVisit 55 = .ok (.aload_n 0, 1) := by decide +kernel
theorem dX5_laysVisit_56 : decode cX5_laysVisit 56 = .ok (.getfield 7, 3) := by decide +kernel
theorem dX5_laysVisit_59 : decode cX5_laysVisit 59 = .ok (.iload 7, 2) := by decide +kernel
theorem dX5_laysVisit_61 : decode cX5_laysVisit 61 = .ok (.iconst 4, 1) := by decide +kernel
theorem dX5_laysVisit_62 : decode cX5_laysVisit 62 = .ok (.iadd, 1) := by decide +kernel
theorem dX5_laysVisit_63 : decode cX5_laysVisit 63 = .ok (.iload 5, 2) := by decide +kernel
theorem dX5_laysVisit_65 : decode cX5_laysVisit 65 = .ok (.iastore, 1) := by decide +kernel
theorem dX5_laysVisit_66 : decode cX5_laysVisit 66 = .ok (.aload_n 0, 1) := by decide +kernel
theorem dX5_laysVisit_67 : decode cX5_laysVisit 67 = .ok (.getfield 7, 3) := by decide +kernel
theorem dX5_laysVisit_70 : decode cX5_laysVisit 70 = .ok (.iload 7, 2) := by decide +kernel
theorem dX5_laysVisit_72 : decode cX5_laysVisit 72 = .ok (.iconst 5, 1) := by decide +kernel
theorem dX5_laysVisit_73 : decode cX5_laysVisit 73 = .ok (.iadd, 1) := by decide +kernel
theorem dX5_laysVisit_74 : decode cX5_laysVisit 74 = .ok (.iload 6, 2) := by decide +kernel
theorem dX5_laysVisit_76 : decode cX5_laysVisit 76 = .ok (.iastore, 1) := by decide +kernel
theorem dX5_laysVisit_77 : decode cX5_laysVisit 77 = .ok (.aload_n 0, 1) := by decide +kernel
theorem dX5_laysVisit_78 : decode cX5_laysVisit 78 = .ok (.getfield 7, 3) := by decide +kernel
theorem dX5_laysVisit_81 : decode cX5_laysVisit 81 = .ok (.iconst 3, 1) := by decide +kernel
theorem dX5_laysVisit_82 : decode cX5_laysVisit 82 = .ok (.dup2, 1) := by decide +kernel
theorem dX5_laysVisit_83 : decode cX5_laysVisit 83 = .ok (.iaload, 1) := by decide +kernel
theorem dX5_laysVisit_84 : decode cX5_laysVisit 84 = .ok (.iconst 1, 1) := by decide +kernel
theorem dX5_laysVisit_85 : decode cX5_laysVisit 85 = .ok (.iadd, 1) := by decide +kernel
theorem dX5_laysVisit_86 : decode cX5_laysVisit 86 = .ok (.iastore, 1) := by decide +kernel
theorem dX5_laysVisit_87 : decode cX5_laysVisit 87 = .ok (.aload_n 0, 1) := by decide +kernel
theorem dX5_laysVisit_88 : decode cX5_laysVisit 88 = .ok (.getfield 7, 3) := by decide +kernel
theorem dX5_laysVisit_91 : decode cX5_laysVisit 91 = .ok (.iconst 3, 1) := by decide +kernel
theorem dX5_laysVisit_92 : decode cX5_laysVisit 92 = .ok (.iaload, 1) := by decide +kernel
theorem dX5_laysVisit_93 : decode cX5_laysVisit 93 = .ok (.iconst 1, 1) := by decide +kernel
theorem dX5_laysVisit_94 : decode cX5_laysVisit 94 = .ok (.isub, 1) := by decide +kernel
theorem dX5_laysVisit_95 : decode cX5_laysVisit 95 = .ok (.ireturn, 1) := by decide +kernel
set_option maxRecDepth 20000 in
theorem ggX5_visit_X5_refusesVisit : GoodIn wsX5_visit wsX5_refusesVisit := goodIn_r _ [6, 7, 8, 9, 5, 10, 11, 12, 13, 24, 25, 26, 27, 28, 29, 30, 31, 32, 33, 34, 35, 36, 37, 38, 39, 40, 41, 42, 43, 44, 45, 46] (by decide +kernel) (by decide +kernel)
set_option maxRecDepth 20000 in
theorem gX5_visit_X5_refusesVisit : GoodIn wsX5_visit (wsV RX5 121 RX5 yX5_refusesVisit wsX5_refusesVisit) := goodIn_app (goodIn_of _ (by decide +kernel)) ggX5_visit_X5_refusesVisit
set_option maxRecDepth 20000 in
theorem ggX5_visit_X5_records : GoodIn wsX5_visit wsX5_records := goodIn_r _ [17, 18, 19, 7, 24, 25, 26, 27, 28, 29, 30, 31, 32, 33, 34, 35, 36, 37, 38, 39, 40, 41, 42, 43, 44, 45, 46] (by decide +kernel) (by decide +kernel)
set_option maxRecDepth 20000 in
theorem gX5_visit_X5_records : GoodIn wsX5_visit (wsV RX5 114 RX5 yX5_records wsX5_records) := goodIn_app (goodIn_of _ (by decide +kernel)) ggX5_visit_X5_records
set_option maxRecDepth 20000 in
theorem ggX5_visit_X5_laysVisit : GoodIn wsX5_visit wsX5_laysVisit := goodIn_r _ [23, 7, 24, 25, 26, 27, 28, 29, 30, 31, 32, 33, 34, 35, 36, 37, 38, 39, 40, 41, 42, 43, 44, 45, 46] (by decide +kernel) (by decide +kernel)
set_option maxRecDepth 20000 in
theorem gX5_visit_X5_laysVisit : GoodIn wsX5_visit (wsV RX5 124 RX5 yX5_laysVisit wsX5_laysVisit) := goodIn_app (goodIn_of _ (by decide +kernel)) ggX5_visit_X5_laysVisit
theorem dX5_visit_0 : decode cX5_visit 0 = .ok (.aload_n 0, 1) := by decide +kernel
theorem dX5_visit_1 : decode cX5_visit 1 = .ok (.iconst 0, 1) := by decide +kernel
theorem dX5_visit_2 : decode cX5_visit 2 = .ok (.putfield 62, 3) := by decide +kernel
theorem dX5_visit_5 : decode cX5_visit 5 = .ok (.aload_n 0, 1) := by decide +kernel
theorem dX5_visit_6 : decode cX5_visit 6 = .ok (.iload_n 1, 1) := by decide +kernel
theorem dX5_visit_7 : decode cX5_visit 7 = .ok (.iload_n 2, 1) := by decide +kernel
theorem dX5_visit_8 : decode cX5_visit 8 = .ok (.iload_n 3, 1) := by decide +kernel
theorem dX5_visit_9 : decode cX5_visit 9 = .ok (.iload 4, 2) := by decide +kernel
theorem dX5_visit_11 : decode cX5_visit 11 = .ok (.iload 5, 2) := by decide +kernel
theorem dX5_visit_13 : decode cX5_visit 13 = .ok (.iload 6, 2) := by decide +kernel
theorem dX5_visit_15 : decode cX5_visit 15 = .ok (.invokevirtual 121, 3) := by decide +kernel
theorem dX5_visit_18 : decode cX5_visit 18 = .ok (.istore 7, 2) := by decide +kernel
theorem dX5_visit_20 : decode cX5_visit 20 = .ok (.iload 7, 2) := by decide +kernel
theorem dX5_visit_22 : decode cX5_visit 22 = .ok (.ifCond .eq 6, 3) := by decide +kernel
theorem dX5_visit_25 : decode cX5_visit 25 = .ok (.iload 7, 2) := by decide +kernel
theorem dX5_visit_27 : decode cX5_visit 27 = .ok (.ireturn, 1) := by decide +kernel
theorem dX5_visit_28 : decode cX5_visit 28 = .ok (.aload_n 0, 1) := by decide +kernel
theorem dX5_visit_29 : decode cX5_visit 29 = .ok (.invokevirtual 114, 3) := by decide +kernel
theorem dX5_visit_32 : decode cX5_visit 32 = .ok (.aload_n 0, 1) := by decide +kernel
theorem dX5_visit_33 : decode cX5_visit 33 = .ok (.iload_n 1, 1) := by decide +kernel
theorem dX5_visit_34 : decode cX5_visit 34 = .ok (.iload_n 2, 1) := by decide +kernel
theorem dX5_visit_35 : decode cX5_visit 35 = .ok (.iload_n 3, 1) := by decide +kernel
theorem dX5_visit_36 : decode cX5_visit 36 = .ok (.iload 4, 2) := by decide +kernel
theorem dX5_visit_38 : decode cX5_visit 38 = .ok (.iload 5, 2) := by decide +kernel
theorem dX5_visit_40 : decode cX5_visit 40 = .ok (.iload 6, 2) := by decide +kernel
theorem dX5_visit_42 : decode cX5_visit 42 = .ok (.invokevirtual 124, 3) := by decide +kernel
theorem dX5_visit_45 : decode cX5_visit 45 = .ok (.ireturn, 1) := by decide +kernel
set_option maxRecDepth 20000 in
theorem ggX5_isVisit_X5_in : GoodIn wsX5_isVisit wsX5_in := goodIn_r _ [5] (by decide +kernel) (by decide +kernel)
set_option maxRecDepth 20000 in
theorem gX5_isVisit_X5_in : GoodIn wsX5_isVisit (va_wsS RX5 107 yX5_in wsX5_in) := goodIn_app (goodIn_of _ (by decide +kernel)) ggX5_isVisit_X5_in
theorem dX5_isVisit_0 : decode cX5_isVisit 0 = .ok (.iload_n 1, 1) := by decide +kernel
theorem dX5_isVisit_1 : decode cX5_isVisit 1 = .ok (.iconst 0, 1) := by decide +kernel
theorem dX5_isVisit_2 : decode cX5_isVisit 2 = .ok (.aload_n 0, 1) := by decide +kernel
theorem dX5_isVisit_3 : decode cX5_isVisit 3 = .ok (.getfield 7, 3) := by decide +kernel
theorem dX5_isVisit_6 : decode cX5_isVisit 6 = .ok (.iconst 3, 1) := by decide +kernel
theorem dX5_isVisit_7 : decode cX5_isVisit 7 = .ok (.iaload, 1) := by decide +kernel
theorem dX5_isVisit_8 : decode cX5_isVisit 8 = .ok (.iconst 1, 1) := by decide +kernel
theorem dX5_isVisit_9 : decode cX5_isVisit 9 = .ok (.isub, 1) := by decide +kernel
theorem dX5_isVisit_10 : decode cX5_isVisit 10 = .ok (.invokestatic 107, 3) := by decide +kernel
theorem dX5_isVisit_13 : decode cX5_isVisit 13 = .ok (.ireturn, 1) := by decide +kernel
theorem dX5_dropsVisit_0 : decode cX5_dropsVisit 0 = .ok (.aload_n 0, 1) := by decide +kernel
theorem dX5_dropsVisit_1 : decode cX5_dropsVisit 1 = .ok (.getfield 7, 3) := by decide +kernel
theorem dX5_dropsVisit_4 : decode cX5_dropsVisit 4 = .ok (.iconst 3, 1) := by decide +kernel
theorem dX5_dropsVisit_5 : decode cX5_dropsVisit 5 = .ok (.dup2, 1) := by decide +kernel
theorem dX5_dropsVisit_6 : decode cX5_dropsVisit 6 = .ok (.iaload, 1) := by decide +kernel
theorem dX5_dropsVisit_7 : decode cX5_dropsVisit 7 = .ok (.iconst 1, 1) := by decide +kernel
theorem dX5_dropsVisit_8 : decode cX5_dropsVisit 8 = .ok (.isub, 1) := by decide +kernel
theorem dX5_dropsVisit_9 : decode cX5_dropsVisit 9 = .ok (.iastore, 1) := by decide +kernel
theorem dX5_dropsVisit_10 : decode cX5_dropsVisit 10 = .ok (.bipush 6, 2) := by decide +kernel
theorem dX5_dropsVisit_12 : decode cX5_dropsVisit 12 = .ok (.iload_n 1, 1) := by decide +kernel
theorem dX5_dropsVisit_13 : decode cX5_dropsVisit 13 = .ok (.imul, 1) := by decide +kernel
theorem dX5_dropsVisit_14 : decode cX5_dropsVisit 14 = .ok (.istore_n 2, 1) := by decide +kernel
theorem dX5_dropsVisit_15 : decode cX5_dropsVisit 15 = .ok (.iload_n 2, 1) := by decide +kernel
theorem dX5_dropsVisit_16 : decode cX5_dropsVisit 16 = .ok (.bipush 6, 2) := by decide +kernel
theorem dX5_dropsVisit_18 : decode cX5_dropsVisit 18 = .ok (.aload_n 0, 1) := by decide +kernel
theorem dX5_dropsVisit_19 : decode cX5_dropsVisit 19 = .ok (.getfield 7, 3) := by decide +kernel
theorem dX5_dropsVisit_22 : decode cX5_dropsVisit 22 = .ok (.iconst 3, 1) := by decide +kernel
theorem dX5_dropsVisit_23 : decode cX5_dropsVisit 23 = .ok (.iaload, 1) := by decide +kernel
theorem dX5_dropsVisit_24 : decode cX5_dropsVisit 24 = .ok (.imul, 1) := by decide +kernel
theorem dX5_dropsVisit_25 : decode cX5_dropsVisit 25 = .ok (.if_icmp .ge 30, 3) := by decide +kernel
theorem dX5_dropsVisit_28 : decode cX5_dropsVisit 28 = .ok (.aload_n 0, 1) := by decide +kernel
theorem dX5_dropsVisit_29 : decode cX5_dropsVisit 29 = .ok (.getfield 7, 3) := by decide +kernel
theorem dX5_dropsVisit_32 : decode cX5_dropsVisit 32 = .ok (.bipush 33, 2) := by decide +kernel
theorem dX5_dropsVisit_34 : decode cX5_dropsVisit 34 = .ok (.iload_n 2, 1) := by decide +kernel
theorem dX5_dropsVisit_35 : decode cX5_dropsVisit 35 = .ok (.iadd, 1) := by decide +kernel
theorem dX5_dropsVisit_36 : decode cX5_dropsVisit 36 = .ok (.aload_n 0, 1) := by decide +kernel
theorem dX5_dropsVisit_37 : decode cX5_dropsVisit 37 = .ok (.getfield 7, 3) := by decide +kernel
theorem dX5_dropsVisit_40 : decode cX5_dropsVisit 40 = .ok (.bipush 33, 2) := by decide +kernel
theorem dX5_dropsVisit_42 : decode cX5_dropsVisit 42 = .ok (.iload_n 2, 1) := by decide +kernel
theorem dX5_dropsVisit_43 : decode cX5_dropsVisit 43 = .ok (.iadd, 1) := by decide +kernel
theorem dX5_dropsVisit_44 : decode cX5_dropsVisit 44 = .ok (.bipush 6, 2) := by decide +kernel
theorem dX5_dropsVisit_46 : decode cX5_dropsVisit 46 = .ok (.iadd, 1) := by decide +kernel
theorem dX5_dropsVisit_47 : decode cX5_dropsVisit 47 = .ok (.iaload, 1) := by decide +kernel
theorem dX5_dropsVisit_48 : decode cX5_dropsVisit 48 = .ok (.iastore, 1) := by decide +kernel
theorem dX5_dropsVisit_49 : decode cX5_dropsVisit 49 = .ok (.iinc 2 1, 3) := by decide +kernel
theorem dX5_dropsVisit_52 : decode cX5_dropsVisit 52 = .ok (.goto (-37), 3) := by decide +kernel
theorem dX5_dropsVisit_55 : decode cX5_dropsVisit 55 = .ok (.iconst 0, 1) := by decide +kernel
theorem dX5_dropsVisit_56 : decode cX5_dropsVisit 56 = .ok (.istore_n 2, 1) := by decide +kernel
theorem dX5_dropsVisit_57 : decode cX5_dropsVisit 57 = .ok (.iload_n 2, 1) := by decide +kernel
theorem dX5_dropsVisit_58 : decode cX5_dropsVisit 58 = .ok (.bipush 6, 2) := by decide +kernel
theorem dX5_dropsVisit_60 : decode cX5_dropsVisit 60 = .ok (.if_icmp .ge 29, 3) := by decide +kernel
theorem dX5_dropsVisit_63 : decode cX5_dropsVisit 63 = .ok (.aload_n 0, 1) := by decide +kernel
theorem dX5_dropsVisit_64 : decode cX5_dropsVisit 64 = .ok (.getfield 7, 3) := by decide +kernel
theorem dX5_dropsVisit_67 : decode cX5_dropsVisit 67 = .ok (.bipush 33, 2) := by decide +kernel
theorem dX5_dropsVisit_69 : decode cX5_dropsVisit 69 = .ok (.bipush 6, 2) := by decide +kernel
theorem dX5_dropsVisit_71 : decode cX5_dropsVisit 71 = .ok (.aload_n 0, 1) := by decide +kernel
theorem dX5_dropsVisit_72 : decode cX5_dropsVisit 72 = .ok (.getfield 7, 3) := by decide +kernel
theorem dX5_dropsVisit_75 : decode cX5_dropsVisit 75 = .ok (.iconst 3, 1) := by decide +kernel
theorem dX5_dropsVisit_76 : decode cX5_dropsVisit 76 = .ok (.iaload, 1) := by decide +kernel
theorem dX5_dropsVisit_77 : decode cX5_dropsVisit 77 = .ok (.imul, 1) := by decide +kernel
theorem dX5_dropsVisit_78 : decode cX5_dropsVisit 78 = .ok (.iadd, 1) := by decide +kernel
theorem dX5_dropsVisit_79 : decode cX5_dropsVisit 79 = .ok (.iload_n 2, 1) := by decide +kernel
theorem dX5_dropsVisit_80 : decode cX5_dropsVisit 80 = .ok (.iadd, 1) := by decide +kernel
theorem dX5_dropsVisit_81 : decode cX5_dropsVisit 81 = .ok (.iconst 0, 1) := by decide +kernel
theorem dX5_dropsVisit_82 : decode cX5_dropsVisit 82 = .ok (.iastore, 1) := by decide +kernel
theorem dX5_dropsVisit_83 : decode cX5_dropsVisit 83 = .ok (.iinc 2 1, 3) := by decide +kernel
theorem dX5_dropsVisit_86 : decode cX5_dropsVisit 86 = .ok (.goto (-29), 3) := by decide +kernel
theorem dX5_dropsVisit_89 : decode cX5_dropsVisit 89 = .ok (.aload_n 0, 1) := by decide +kernel
theorem dX5_dropsVisit_90 : decode cX5_dropsVisit 90 = .ok (.getfield 7, 3) := by decide +kernel
theorem dX5_dropsVisit_93 : decode cX5_dropsVisit 93 = .ok (.iconst 3, 1) := by decide +kernel
theorem dX5_dropsVisit_94 : decode cX5_dropsVisit 94 = .ok (.iaload, 1) := by decide +kernel
theorem dX5_dropsVisit_95 : decode cX5_dropsVisit 95 = .ok (.ireturn, 1) := by decide +kernel
set_option maxRecDepth 20000 in
theorem ggX5_drop_X5_isVisit : GoodIn wsX5_drop wsX5_isVisit := goodIn_r _ [6, 7, 8, 9, 5, 10, 21, 22, 23, 24, 25, 26, 27, 28, 29, 30, 31, 32, 33, 34, 35, 36, 37, 38, 39, 40, 41, 42, 43] (by decide +kernel) (by decide +kernel)
set_option maxRecDepth 20000 in
theorem gX5_drop_X5_isVisit : GoodIn wsX5_drop (wsV RX5 127 RX5 yX5_isVisit wsX5_isVisit) := goodIn_app (goodIn_of _ (by decide +kernel)) ggX5_drop_X5_isVisit
set_option maxRecDepth 20000 in
theorem ggX5_drop_X5_records : GoodIn wsX5_drop wsX5_records := goodIn_r _ [14, 15, 16, 7, 21, 22, 23, 24, 25, 26, 27, 28, 29, 30, 31, 32, 33, 34, 35, 36, 37, 38, 39, 40, 41, 42, 43] (by decide +kernel) (by decide +kernel)
set_option maxRecDepth 20000 in
theorem gX5_drop_X5_records : GoodIn wsX5_drop (wsV RX5 114 RX5 yX5_records wsX5_records) := goodIn_app (goodIn_of _ (by decide +kernel)) ggX5_drop_X5_records
set_option maxRecDepth 20000 in
theorem ggX5_drop_X5_dropsVisit : GoodIn wsX5_drop wsX5_dropsVisit := goodIn_r _ [20, 7, 21, 22, 23, 24, 25, 26, 27, 28, 29, 30, 31, 32, 33, 34, 35, 36, 37, 38, 39, 40, 41, 42, 43] (by decide +kernel) (by decide +kernel)
set_option maxRecDepth 20000 in
theorem gX5_drop_X5_dropsVisit : GoodIn wsX5_drop (wsV RX5 131 RX5 yX5_dropsVisit wsX5_dropsVisit) := goodIn_app (goodIn_of _ (by decide +kernel)) ggX5_drop_X5_dropsVisit
theorem dX5_drop_0 : decode cX5_drop 0 = .ok (.aload_n 0, 1) := by decide +kernel
theorem dX5_drop_1 : decode cX5_drop 1 = .ok (.iconst 0, 1) := by decide +kernel
theorem dX5_drop_2 : decode cX5_drop 2 = .ok (.putfield 62, 3) := by decide +kernel
theorem dX5_drop_5 : decode cX5_drop 5 = .ok (.aload_n 0, 1) := by decide +kernel
theorem dX5_drop_6 : decode cX5_drop 6 = .ok (.iload_n 1, 1) := by decide +kernel
theorem dX5_drop_7 : decode cX5_drop 7 = .ok (.invokevirtual 127, 3) := by decide +kernel
theorem dX5_drop_10 : decode cX5_drop 10 = .ok (.ifCond .ne 5, 3) := by decide +kernel
theorem dX5_drop_13 : decode cX5_drop 13 = .ok (.iconst (-1), 1) := by decide +kernel
theorem dX5_drop_14 : decode cX5_drop 14 = .ok (.ireturn, 1) := by decide +kernel
theorem dX5_drop_15 : decode cX5_drop 15 = .ok (.aload_n 0, 1) := by decide +kernel
theorem dX5_drop_16 : decode cX5_drop 16 = .ok (.invokevirtual 114, 3) := by decide +kernel
theorem dX5_drop_19 : decode cX5_drop 19 = .ok (.aload_n 0, 1) := by decide +kernel
theorem dX5_drop_20 : decode cX5_drop 20 = .ok (.iload_n 1, 1) := by decide +kernel
theorem dX5_drop_21 : decode cX5_drop 21 = .ok (.invokevirtual 131, 3) := by decide +kernel
theorem dX5_drop_24 : decode cX5_drop 24 = .ok (.ireturn, 1) := by decide +kernel
set_option maxRecDepth 20000 in
theorem ggX5_refusesVan_X5_in : GoodIn wsX5_refusesVan wsX5_in := goodIn_r _ [5] (by decide +kernel) (by decide +kernel)
set_option maxRecDepth 20000 in
theorem gX5_refusesVan_X5_in : GoodIn wsX5_refusesVan (va_wsS RX5 107 yX5_in wsX5_in) := goodIn_app (goodIn_of _ (by decide +kernel)) ggX5_refusesVan_X5_in
theorem dX5_refusesVan_0 : decode cX5_refusesVan 0 = .ok (.iload_n 1, 1) := by decide +kernel
theorem dX5_refusesVan_1 : decode cX5_refusesVan 1 = .ok (.iconst 0, 1) := by decide +kernel
theorem dX5_refusesVan_2 : decode cX5_refusesVan 2 = .ok (.bipush 99, 2) := by decide +kernel
theorem dX5_refusesVan_4 : decode cX5_refusesVan 4 = .ok (.invokestatic 107, 3) := by decide +kernel
theorem dX5_refusesVan_7 : decode cX5_refusesVan 7 = .ok (.ifCond .eq 13, 3) := by decide +kernel
theorem dX5_refusesVan_10 : decode cX5_refusesVan 10 = .ok (.iload_n 2, 1) := by decide +kernel
theorem dX5_refusesVan_11 : decode cX5_refusesVan 11 = .ok (.iconst 0, 1) := by decide +kernel
theorem dX5_refusesVan_12 : decode cX5_refusesVan 12 = .ok (.bipush 15, 2) := by decide +kernel
theorem dX5_refusesVan_14 : decode cX5_refusesVan 14 = .ok (.invokestatic 107, 3) := by decide +kernel
theorem dX5_refusesVan_17 : decode cX5_refusesVan 17 = .ok (.ifCond .ne 6, 3) := by decide +kernel
theorem dX5_refusesVan_20 : decode cX5_refusesVan 20 = .ok (.bipush (-2), 2) := by decide +kernel
theorem dX5_refusesVan_22 : decode cX5_refusesVan 22 = .ok (.ireturn, 1) := by decide +kernel
theorem dX5_refusesVan_23 : decode cX5_refusesVan 23 = .ok (.aload_n 0, 1) := by decide +kernel
theorem dX5_refusesVan_24 : decode cX5_refusesVan 24 = .ok (.getfield 7, 3) := by decide +kernel
theorem dX5_refusesVan_27 : decode cX5_refusesVan 27 = .ok (.iconst 4, 1) := by decide +kernel
theorem dX5_refusesVan_28 : decode cX5_refusesVan 28 = .ok (.iaload, 1) := by decide +kernel
theorem dX5_refusesVan_29 : decode cX5_refusesVan 29 = .ok (.iconst 4, 1) := by decide +kernel
theorem dX5_refusesVan_30 : decode cX5_refusesVan 30 = .ok (.if_icmp .ne 8, 3) := by decide +kernel
theorem dX5_refusesVan_33 : decode cX5_refusesVan 33 = .ok (.bipush (-4), 2) := by decide +kernel
theorem dX5_refusesVan_35 : decode cX5_refusesVan 35 = .ok (.goto 4, 3) := by decide +kernel
theorem dX5_refusesVan_38 : decode cX5_refusesVan 38 = .ok (.iconst 0, 1) := by decide +kernel
theorem dX5_refusesVan_39 : decode cX5_refusesVan 39 = .ok (.ireturn, 1) := by decide +kernel
theorem dX5_laysVan_0 : decode cX5_laysVan 0 = .ok (.iconst 5, 1) := by decide +kernel
theorem dX5_laysVan_1 : decode cX5_laysVan 1 = .ok (.bipush 7, 2) := by decide +kernel
theorem dX5_laysVan_3 : decode cX5_laysVan 3 = .ok (.aload_n 0, 1) := by decide +kernel
theorem dX5_laysVan_4 : decode cX5_laysVan 4 = .ok (.getfield 7, 3) := by decide +kernel
theorem dX5_laysVan_7 : decode cX5_laysVan 7 = .ok (.iconst 4, 1) := by decide +kernel
theorem dX5_laysVan_8 : decode cX5_laysVan 8 = .ok (.iaload, 1) := by decide +kernel
theorem dX5_laysVan_9 : decode cX5_laysVan 9 = .ok (.imul, 1) := by decide +kernel
theorem dX5_laysVan_10 : decode cX5_laysVan 10 = .ok (.iadd, 1) := by decide +kernel
theorem dX5_laysVan_11 : decode cX5_laysVan 11 = .ok (.istore 4, 2) := by decide +kernel
theorem dX5_laysVan_13 : decode cX5_laysVan 13 = .ok (.aload_n 0, 1) := by decide +kernel
theorem dX5_laysVan_14 : decode cX5_laysVan 14 = .ok (.getfield 7, 3) := by decide +kernel
theorem dX5_laysVan_17 : decode cX5_laysVan 17 = .ok (.iload 4, 2) := by decide +kernel
theorem dX5_laysVan_19 : decode cX5_laysVan 19 = .ok (.iconst 0, 1) := by decide +kernel
theorem dX5_laysVan_20 : decode cX5_laysVan 20 = .ok (.iadd, 1) := by decide +kernel
theorem dX5_laysVan_21 : decode cX5_laysVan 21 = .ok (.iload_n 1, 1) := by decide +kernel
theorem dX5_laysVan_22 : decode cX5_laysVan 22 = .ok (.iastore, 1) := by decide +kernel
theorem dX5_laysVan_23 : decode cX5_laysVan 23 = .ok (.aload_n 0, 1) := by decide +kernel
theorem dX5_laysVan_24 : decode cX5_laysVan 24 = .ok (.getfield 7, 3) := by decide +kernel
theorem dX5_laysVan_27 : decode cX5_laysVan 27 = .ok (.iload 4, 2) := by decide +kernel
theorem dX5_laysVan_29 : decode cX5_laysVan 29 = .ok (.iconst 1, 1) := by decide +kernel
theorem dX5_laysVan_30 : decode cX5_laysVan 30 = .ok (.iadd, 1) := by decide +kernel
theorem dX5_laysVan_31 : decode cX5_laysVan 31 = .ok (.iload_n 2, 1) := by decide +kernel
theorem dX5_laysVan_32 : decode cX5_laysVan 32 = .ok (.iastore, 1) := by decide +kernel
theorem dX5_laysVan_33 : decode cX5_laysVan 33 = .ok (.iconst 0, 1) := by decide +kernel
theorem dX5_laysVan_34 : decode cX5_laysVan 34 = .ok (.istore 5, 2) := by decide +kernel
theorem dX5_laysVan_36 : decode cX5_laysVan 36 = .ok (.iload 5, 2) := by decide +kernel
theorem dX5_laysVan_38 : decode cX5_laysVan 38 = .ok (.iconst 5, 1) := by decide +kernel
theorem dX5_laysVan_39 : decode cX5_laysVan 39 = .ok (.if_icmp .ge 22, 3) := by decide +kernel
theorem dX5_laysVan_42 : decode cX5_laysVan 42 = .ok (.aload_n 0, 1) := by decide +kernel
theorem dX5_laysVan_43 : decode cX5_laysVan 43 = .ok (.getfield 7, 3) := by decide +kernel
theorem dX5_laysVan_46 : decode cX5_laysVan 46 = .ok (.iload 4, 2) := by decide +kernel
theorem dX5_laysVan_48 : decode cX5_laysVan 48 = .ok (.iconst 2, 1) := by decide +kernel
theorem dX5_laysVan_49 : decode cX5_laysVan 49 = .ok (.iadd, 1) := by decide +kernel
theorem dX5_laysVan_50 : decode cX5_laysVan 50 = .ok (.iload 5, 2) := by decide +kernel
theorem dX5_laysVan_52 : decode cX5_laysVan 52 = .ok (.iadd, 1) := by decide +kernel
theorem dX5_laysVan_53 : decode cX5_laysVan 53 = .ok (.iload_n 3, 1) := by decide +kernel
theorem dX5_laysVan_54 : decode cX5_laysVan 54 = .ok (.iastore, 1) := by decide +kernel
theorem dX5_laysVan_55 : decode cX5_laysVan 55 = .ok (.iinc 5 1, 3) := by decide +kernel
theorem dX5_laysVan_58 : decode cX5_laysVan 58 = .ok (.goto (-22), 3) := by decide +kernel
theorem dX5_laysVan_61 : decode cX5_laysVan 61 = .ok (.aload_n 0, 1) := by decide +kernel
theorem dX5_laysVan_62 : decode cX5_laysVan 62 = .ok (.getfield 7, 3) := by decide +kernel
theorem dX5_laysVan_65 : decode cX5_laysVan 65 = .ok (.iconst 4, 1) := by decide +kernel
theorem dX5_laysVan_66 : decode cX5_laysVan 66 = .ok (.dup2, 1) := by decide +kernel
theorem dX5_laysVan_67 : decode cX5_laysVan 67 = .ok (.iaload, 1) := by decide +kernel
theorem dX5_laysVan_68 : decode cX5_laysVan 68 = .ok (.iconst 1, 1) := by decide +kernel
theorem dX5_laysVan_69 : decode cX5_laysVan 69 = .ok (.iadd, 1) := by decide +kernel
theorem dX5_laysVan_70 : decode cX5_laysVan 70 = .ok (.iastore, 1) := by decide +kernel
theorem dX5_laysVan_71 : decode cX5_laysVan 71 = .ok (.aload_n 0, 1) := by decide +kernel
theorem dX5_laysVan_72 : decode cX5_laysVan 72 = .ok (.getfield 7, 3) := by decide +kernel
theorem dX5_laysVan_75 : decode cX5_laysVan 75 = .ok (.iconst 4, 1) := by decide +kernel
theorem dX5_laysVan_76 : decode cX5_laysVan 76 = .ok (.iaload, 1) := by decide +kernel
theorem dX5_laysVan_77 : decode cX5_laysVan 77 = .ok (.iconst 1, 1) := by decide +kernel
theorem dX5_laysVan_78 : decode cX5_laysVan 78 = .ok (.isub, 1) := by decide +kernel
theorem dX5_laysVan_79 : decode cX5_laysVan 79 = .ok (.ireturn, 1) := by decide +kernel
set_option maxRecDepth 20000 in
theorem ggX5_van_X5_refusesVan : GoodIn wsX5_van wsX5_refusesVan := goodIn_r _ [6, 7, 8, 9, 5, 10, 21, 22, 23, 24, 25, 26, 27, 28, 29, 30, 31, 32, 33, 34, 35, 36, 37, 38, 39, 40, 41, 42, 43] (by decide +kernel) (by decide +kernel)
set_option maxRecDepth 20000 in
theorem gX5_van_X5_refusesVan : GoodIn wsX5_van (wsV RX5 134 RX5 yX5_refusesVan wsX5_refusesVan) := goodIn_app (goodIn_of _ (by decide +kernel)) ggX5_van_X5_refusesVan
set_option maxRecDepth 20000 in
theorem ggX5_van_X5_records : GoodIn wsX5_van wsX5_records := goodIn_r _ [14, 15, 16, 7, 21, 22, 23, 24, 25, 26, 27, 28, 29, 30, 31, 32, 33, 34, 35, 36, 37, 38, 39, 40, 41, 42, 43] (by decide +kernel) (by decide +kernel)
set_option maxRecDepth 20000 in
theorem gX5_van_X5_records : GoodIn wsX5_van (wsV RX5 114 RX5 yX5_records wsX5_records) := goodIn_app (goodIn_of _ (by decide +kernel)) ggX5_van_X5_records
set_option maxRecDepth 20000 in
theorem ggX5_van_X5_laysVan : GoodIn wsX5_van wsX5_laysVan := goodIn_r _ [20, 7, 21, 22, 23, 24, 25, 26, 27, 28, 29, 30, 31, 32, 33, 34, 35, 36, 37, 38, 39, 40, 41, 42, 43] (by decide +kernel) (by decide +kernel)
set_option maxRecDepth 20000 in
theorem gX5_van_X5_laysVan : GoodIn wsX5_van (wsV RX5 137 RX5 yX5_laysVan wsX5_laysVan) := goodIn_app (goodIn_of _ (by decide +kernel)) ggX5_van_X5_laysVan
theorem dX5_van_0 : decode cX5_van 0 = .ok (.aload_n 0, 1) := by decide +kernel
theorem dX5_van_1 : decode cX5_van 1 = .ok (.iconst 0, 1) := by decide +kernel
theorem dX5_van_2 : decode cX5_van 2 = .ok (.putfield 62, 3) := by decide +kernel
theorem dX5_van_5 : decode cX5_van 5 = .ok (.aload_n 0, 1) := by decide +kernel
theorem dX5_van_6 : decode cX5_van 6 = .ok (.iload_n 1, 1) := by decide +kernel
theorem dX5_van_7 : decode cX5_van 7 = .ok (.iload_n 2, 1) := by decide +kernel
theorem dX5_van_8 : decode cX5_van 8 = .ok (.invokevirtual 134, 3) := by decide +kernel
theorem dX5_van_11 : decode cX5_van 11 = .ok (.istore_n 3, 1) := by decide +kernel
theorem dX5_van_12 : decode cX5_van 12 = .ok (.iload_n 3, 1) := by decide +kernel
theorem dX5_van_13 : decode cX5_van 13 = .ok (.ifCond .eq 5, 3) := by decide +kernel
theorem dX5_van_16 : decode cX5_van 16 = .ok (.iload_n 3, 1) := by decide +kernel
theorem dX5_van_17 : decode cX5_van 17 = .ok (.ireturn, 1) := by decide +kernel
theorem dX5_van_18 : decode cX5_van 18 = .ok (.aload_n 0, 1) := by decide +kernel
theorem dX5_van_19 : decode cX5_van 19 = .ok (.invokevirtual 114, 3) := by decide +kernel
theorem dX5_van_22 : decode cX5_van 22 = .ok (.aload_n 0, 1) := by decide +kernel
theorem dX5_van_23 : decode cX5_van 23 = .ok (.iload_n 1, 1) := by decide +kernel
theorem dX5_van_24 : decode cX5_van 24 = .ok (.iload_n 2, 1) := by decide +kernel
theorem dX5_van_25 : decode cX5_van 25 = .ok (.iconst 0, 1) := by decide +kernel
theorem dX5_van_26 : decode cX5_van 26 = .ok (.invokevirtual 137, 3) := by decide +kernel
theorem dX5_van_29 : decode cX5_van 29 = .ok (.ireturn, 1) := by decide +kernel
set_option maxRecDepth 20000 in
theorem ggX5_isVan_X5_in : GoodIn wsX5_isVan wsX5_in := goodIn_r _ [5] (by decide +kernel) (by decide +kernel)
set_option maxRecDepth 20000 in
theorem gX5_isVan_X5_in : GoodIn wsX5_isVan (va_wsS RX5 107 yX5_in wsX5_in) := goodIn_app (goodIn_of _ (by decide +kernel)) ggX5_isVan_X5_in
theorem dX5_isVan_0 : decode cX5_isVan 0 = .ok (.iload_n 1, 1) := by decide +kernel
theorem dX5_isVan_1 : decode cX5_isVan 1 = .ok (.iconst 0, 1) := by decide +kernel
theorem dX5_isVan_2 : decode cX5_isVan 2 = .ok (.aload_n 0, 1) := by decide +kernel
theorem dX5_isVan_3 : decode cX5_isVan 3 = .ok (.getfield 7, 3) := by decide +kernel
theorem dX5_isVan_6 : decode cX5_isVan 6 = .ok (.iconst 4, 1) := by decide +kernel
theorem dX5_isVan_7 : decode cX5_isVan 7 = .ok (.iaload, 1) := by decide +kernel
theorem dX5_isVan_8 : decode cX5_isVan 8 = .ok (.iconst 1, 1) := by decide +kernel
theorem dX5_isVan_9 : decode cX5_isVan 9 = .ok (.isub, 1) := by decide +kernel
theorem dX5_isVan_10 : decode cX5_isVan 10 = .ok (.invokestatic 107, 3) := by decide +kernel
theorem dX5_isVan_13 : decode cX5_isVan 13 = .ok (.ireturn, 1) := by decide +kernel
set_option maxRecDepth 20000 in
theorem ggX5_refusesLoad_X5_isVan : GoodIn wsX5_refusesLoad wsX5_isVan := goodIn_r _ [5, 6, 7, 8, 4, 9, 10, 11, 12, 13, 14, 15, 16, 17, 18, 19, 20, 21, 22, 23, 24, 25, 26, 27, 28, 29, 30, 31, 32] (by decide +kernel) (by decide +kernel)
set_option maxRecDepth 20000 in
theorem gX5_refusesLoad_X5_isVan : GoodIn wsX5_refusesLoad (wsV RX5 140 RX5 yX5_isVan wsX5_isVan) := goodIn_app (goodIn_of _ (by decide +kernel)) ggX5_refusesLoad_X5_isVan
set_option maxRecDepth 20000 in
theorem ggX5_refusesLoad_X5_in : GoodIn wsX5_refusesLoad wsX5_in := goodIn_r _ [9] (by decide +kernel) (by decide +kernel)
set_option maxRecDepth 20000 in
theorem gX5_refusesLoad_X5_in : GoodIn wsX5_refusesLoad (va_wsS RX5 107 yX5_in wsX5_in) := goodIn_app (goodIn_of _ (by decide +kernel)) ggX5_refusesLoad_X5_in
theorem dX5_refusesLoad_0 : decode cX5_refusesLoad 0 = .ok (.aload_n 0, 1) := by decide +kernel
theorem dX5_refusesLoad_1 : decode cX5_refusesLoad 1 = .ok (.iload_n 1, 1) := by decide +kernel
theorem dX5_refusesLoad_2 : decode cX5_refusesLoad 2 = .ok (.invokevirtual 140, 3) := by decide +kernel
theorem dX5_refusesLoad_5 : decode cX5_refusesLoad 5 = .ok (.ifCond .eq 12, 3) := by decide +kernel
theorem dX5_refusesLoad_8 : decode cX5_refusesLoad 8 = .ok (.iload_n 2, 1) := by decide +kernel
theorem dX5_refusesLoad_9 : decode cX5_refusesLoad 9 = .ok (.iconst 0, 1) := by decide +kernel
theorem dX5_refusesLoad_10 : decode cX5_refusesLoad 10 = .ok (.iconst 4, 1) := by decide +kernel
theorem dX5_refusesLoad_11 : decode cX5_refusesLoad 11 = .ok (.invokestatic 107, 3) := by decide +kernel
theorem dX5_refusesLoad_14 : decode cX5_refusesLoad 14 = .ok (.ifCond .ne 7, 3) := by decide +kernel
theorem dX5_refusesLoad_17 : decode cX5_refusesLoad 17 = .ok (.iconst (-1), 1) := by decide +kernel
theorem dX5_refusesLoad_18 : decode cX5_refusesLoad 18 = .ok (.goto 19, 3) := by decide +kernel
theorem dX5_refusesLoad_21 : decode cX5_refusesLoad 21 = .ok (.iload_n 3, 1) := by decide +kernel
theorem dX5_refusesLoad_22 : decode cX5_refusesLoad 22 = .ok (.iconst 0, 1) := by decide +kernel
theorem dX5_refusesLoad_23 : decode cX5_refusesLoad 23 = .ok (.bipush 99, 2) := by decide +kernel
theorem dX5_refusesLoad_25 : decode cX5_refusesLoad 25 = .ok (.invokestatic 107, 3) := by decide +kernel
theorem dX5_refusesLoad_28 : decode cX5_refusesLoad 28 = .ok (.ifCond .eq 7, 3) := by decide +kernel
theorem dX5_refusesLoad_31 : decode cX5_refusesLoad 31 = .ok (.iconst 0, 1) := by decide +kernel
theorem dX5_refusesLoad_32 : decode cX5_refusesLoad 32 = .ok (.goto 5, 3) := by decide +kernel
theorem dX5_refusesLoad_35 : decode cX5_refusesLoad 35 = .ok (.bipush (-2), 2) := by decide +kernel
theorem dX5_refusesLoad_37 : decode cX5_refusesLoad 37 = .ok (.ireturn, 1) := by decide +kernel
set_option maxRecDepth 20000 in
theorem ggX5_load_X5_refusesLoad : GoodIn wsX5_load wsX5_refusesLoad := goodIn_r _ [7, 8, 9, 10, 6, 11, 2, 12, 13, 14, 25, 26, 27, 28, 29, 30, 31, 32, 33, 34, 35, 36, 37, 38, 39, 40, 41, 42, 43, 44, 45, 46, 47] (by decide +kernel) (by decide +kernel)
set_option maxRecDepth 20000 in
theorem gX5_load_X5_refusesLoad : GoodIn wsX5_load (wsV RX5 143 RX5 yX5_refusesLoad wsX5_refusesLoad) := goodIn_app (goodIn_of _ (by decide +kernel)) ggX5_load_X5_refusesLoad
set_option maxRecDepth 20000 in
theorem ggX5_load_X5_records : GoodIn wsX5_load wsX5_records := goodIn_r _ [18, 19, 20, 2, 25, 26, 27, 28, 29, 30, 31, 32, 33, 34, 35, 36, 37, 38, 39, 40, 41, 42, 43, 44, 45, 46, 47] (by decide +kernel) (by decide +kernel)
set_option maxRecDepth 20000 in
theorem gX5_load_X5_records : GoodIn wsX5_load (wsV RX5 114 RX5 yX5_records wsX5_records) := goodIn_app (goodIn_of _ (by decide +kernel)) ggX5_load_X5_records
set_option maxRecDepth 20000 in
theorem ggX5_load_X5_van0 : GoodIn wsX5_load wsX5_van0 := goodIn_r _ [24, 2, 25, 26, 27, 28, 29, 30, 31, 32, 33, 34, 35, 36, 37, 38, 39, 40, 41, 42, 43, 44, 45, 46, 47] (by decide +kernel) (by decide +kernel)
set_option maxRecDepth 20000 in
theorem gX5_load_X5_van0 : GoodIn wsX5_load (wsV RX5 69 RX5 yX5_van0 wsX5_van0) := goodIn_app (goodIn_of _ (by decide +kernel)) ggX5_load_X5_van0
theorem dX5_load_0 : decode cX5_load 0 = .ok (.aload_n 0, 1) := by decide +kernel
theorem dX5_load_1 : decode cX5_load 1 = .ok (.iconst 0, 1) := by decide +kernel
theorem dX5_load_2 : decode cX5_load 2 = .ok (.putfield 62, 3) := by decide +kernel
theorem dX5_load_5 : decode cX5_load 5 = .ok (.aload_n 0, 1) := by decide +kernel
theorem dX5_load_6 : decode cX5_load 6 = .ok (.iload_n 1, 1) := by decide +kernel
theorem dX5_load_7 : decode cX5_load 7 = .ok (.iload_n 2, 1) := by decide +kernel
theorem dX5_load_8 : decode cX5_load 8 = .ok (.iload_n 3, 1) := by decide +kernel
theorem dX5_load_9 : decode cX5_load 9 = .ok (.invokevirtual 143, 3) := by decide +kernel
theorem dX5_load_12 : decode cX5_load 12 = .ok (.istore 4, 2) := by decide +kernel
theorem dX5_load_14 : decode cX5_load 14 = .ok (.iload 4, 2) := by decide +kernel
theorem dX5_load_16 : decode cX5_load 16 = .ok (.ifCond .eq 6, 3) := by decide +kernel
theorem dX5_load_19 : decode cX5_load 19 = .ok (.iload 4, 2) := by decide +kernel
theorem dX5_load_21 : decode cX5_load 21 = .ok (.ireturn, 1) := by decide +kernel
theorem dX5_load_22 : decode cX5_load 22 = .ok (.aload_n 0, 1) := by decide +kernel
theorem dX5_load_23 : decode cX5_load 23 = .ok (.invokevirtual 114, 3) := by decide +kernel
theorem dX5_load_26 : decode cX5_load 26 = .ok (.aload_n 0, 1) := by decide +kernel
theorem dX5_load_27 : decode cX5_load 27 = .ok (.iload_n 1, 1) := by decide +kernel
theorem dX5_load_28 : decode cX5_load 28 = .ok (.iconst 2, 1) := by decide +kernel
theorem dX5_load_29 : decode cX5_load 29 = .ok (.iload_n 2, 1) := by decide +kernel
theorem dX5_load_30 : decode cX5_load 30 = .ok (.iadd, 1) := by decide +kernel
theorem dX5_load_31 : decode cX5_load 31 = .ok (.invokevirtual 69, 3) := by decide +kernel
theorem dX5_load_34 : decode cX5_load 34 = .ok (.istore 5, 2) := by decide +kernel
theorem dX5_load_36 : decode cX5_load 36 = .ok (.aload_n 0, 1) := by decide +kernel
theorem dX5_load_37 : decode cX5_load 37 = .ok (.getfield 7, 3) := by decide +kernel
theorem dX5_load_40 : decode cX5_load 40 = .ok (.iconst 5, 1) := by decide +kernel
theorem dX5_load_41 : decode cX5_load 41 = .ok (.bipush 7, 2) := by decide +kernel
theorem dX5_load_43 : decode cX5_load 43 = .ok (.iload_n 1, 1) := by decide +kernel
theorem dX5_load_44 : decode cX5_load 44 = .ok (.imul, 1) := by decide +kernel
theorem dX5_load_45 : decode cX5_load 45 = .ok (.iadd, 1) := by decide +kernel
theorem dX5_load_46 : decode cX5_load 46 = .ok (.iconst 2, 1) := by decide +kernel
theorem dX5_load_47 : decode cX5_load 47 = .ok (.iadd, 1) := by decide +kernel
theorem dX5_load_48 : decode cX5_load 48 = .ok (.iload_n 2, 1) := by decide +kernel
theorem dX5_load_49 : decode cX5_load 49 = .ok (.iadd, 1) := by decide +kernel
theorem dX5_load_50 : decode cX5_load 50 = .ok (.iload_n 3, 1) := by decide +kernel
theorem dX5_load_51 : decode cX5_load 51 = .ok (.iastore, 1) := by decide +kernel
theorem dX5_load_52 : decode cX5_load 52 = .ok (.iload 5, 2) := by decide +kernel
theorem dX5_load_54 : decode cX5_load 54 = .ok (.ireturn, 1) := by decide +kernel
set_option maxRecDepth 20000 in
theorem ggX5_ofVisit_X5_isVisit : GoodIn wsX5_ofVisit wsX5_isVisit := goodIn_r _ [10, 5, 11, 12, 9, 13, 70, 71, 72, 73, 74, 75, 76, 77, 78, 79, 80, 81, 82, 83, 84, 85, 86, 87, 88, 89, 90, 91, 92] (by decide +kernel) (by decide +kernel)
set_option maxRecDepth 20000 in
theorem gX5_ofVisit_X5_isVisit : GoodIn wsX5_ofVisit (wsV RX5 127 RX5 yX5_isVisit wsX5_isVisit) := goodIn_app (goodIn_of _ (by decide +kernel)) ggX5_ofVisit_X5_isVisit
set_option maxRecDepth 20000 in
theorem ggX5_ofVisit_X5_plans : GoodIn wsX5_ofVisit wsX5_plans := goodIn_r _ [17, 5, 18, 19, 20, 21, 22, 23, 3, 4, 2, 24, 25, 26, 9, 27, 28, 29, 30, 31, 32, 33, 34, 35, 36, 37, 38, 39, 40, 41, 42, 43, 44, 45, 46, 47, 48, 49, 50, 51, 52, 53, 54, 55, 56, 57, 58, 59, 60, 61, 62, 63, 64, 65, 66, 67, 68, 69, 70, 71, 72, 73, 74, 75, 76, 77, 78, 79, 80, 81, 82, 83, 84, 85, 86, 87, 88, 89, 90, 91, 92] (by decide +kernel) (by decide +kernel)
set_option maxRecDepth 20000 in
theorem gX5_ofVisit_X5_plans : GoodIn wsX5_ofVisit (wsV RX5 146 RX5 yX5_plans wsX5_plans) := goodIn_app (goodIn_of _ (by decide +kernel)) ggX5_ofVisit_X5_plans
set_option maxRecDepth 20000 in
theorem ggX5_ofVisit_X5_in : GoodIn wsX5_ofVisit wsX5_in := goodIn_r _ [13] (by decide +kernel) (by decide +kernel)
set_option maxRecDepth 20000 in
theorem gX5_ofVisit_X5_in : GoodIn wsX5_ofVisit (va_wsS RX5 107 yX5_in wsX5_in) := goodIn_app (goodIn_of _ (by decide +kernel)) ggX5_ofVisit_X5_in
set_option maxRecDepth 20000 in
theorem ggX5_ofVisit_X5_visit0 : GoodIn wsX5_ofVisit wsX5_visit0 := goodIn_r _ [35, 5, 70, 71, 72, 73, 74, 75, 76, 77, 78, 79, 80, 81, 82, 83, 84, 85, 86, 87, 88, 89, 90, 91, 92] (by decide +kernel) (by decide +kernel)
set_option maxRecDepth 20000 in
theorem gX5_ofVisit_X5_visit0 : GoodIn wsX5_ofVisit (wsV RX5 73 RX5 yX5_visit0 wsX5_visit0) := goodIn_app (goodIn_of _ (by decide +kernel)) ggX5_ofVisit_X5_visit0
theorem dX5_ofVisit_0 : decode cX5_ofVisit 0 = .ok (.aload_n 0, 1) := by decide +kernel
theorem dX5_ofVisit_1 : decode cX5_ofVisit 1 = .ok (.iconst 0, 1) := by decide +kernel
theorem dX5_ofVisit_2 : decode cX5_ofVisit 2 = .ok (.putfield 62, 3) := by decide +kernel
theorem dX5_ofVisit_5 : decode cX5_ofVisit 5 = .ok (.aload_n 0, 1) := by decide +kernel
theorem dX5_ofVisit_6 : decode cX5_ofVisit 6 = .ok (.iload_n 1, 1) := by decide +kernel
theorem dX5_ofVisit_7 : decode cX5_ofVisit 7 = .ok (.invokevirtual 127, 3) := by decide +kernel
theorem dX5_ofVisit_10 : decode cX5_ofVisit 10 = .ok (.ifCond .ne 5, 3) := by decide +kernel
theorem dX5_ofVisit_13 : decode cX5_ofVisit 13 = .ok (.iconst (-1), 1) := by decide +kernel
theorem dX5_ofVisit_14 : decode cX5_ofVisit 14 = .ok (.ireturn, 1) := by decide +kernel
theorem dX5_ofVisit_15 : decode cX5_ofVisit 15 = .ok (.aload_n 0, 1) := by decide +kernel
theorem dX5_ofVisit_16 : decode cX5_ofVisit 16 = .ok (.invokevirtual 146, 3) := by decide +kernel
theorem dX5_ofVisit_19 : decode cX5_ofVisit 19 = .ok (.iload_n 2, 1) := by decide +kernel
theorem dX5_ofVisit_20 : decode cX5_ofVisit 20 = .ok (.tableswitch 83 6 9 #[32, 39, 46, 53], 32) := by decide +kernel
theorem dX5_ofVisit_52 : decode cX5_ofVisit 52 = .ok (.aload_n 0, 1) := by decide +kernel
theorem dX5_ofVisit_53 : decode cX5_ofVisit 53 = .ok (.getfield 29, 3) := by decide +kernel
theorem dX5_ofVisit_56 : decode cX5_ofVisit 56 = .ok (.iload_n 1, 1) := by decide +kernel
theorem dX5_ofVisit_57 : decode cX5_ofVisit 57 = .ok (.iaload, 1) := by decide +kernel
theorem dX5_ofVisit_58 : decode cX5_ofVisit 58 = .ok (.ireturn, 1) := by decide +kernel
theorem dX5_ofVisit_59 : decode cX5_ofVisit 59 = .ok (.aload_n 0, 1) := by decide +kernel
theorem dX5_ofVisit_60 : decode cX5_ofVisit 60 = .ok (.getfield 32, 3) := by decide +kernel
theorem dX5_ofVisit_63 : decode cX5_ofVisit 63 = .ok (.iload_n 1, 1) := by decide +kernel
theorem dX5_ofVisit_64 : decode cX5_ofVisit 64 = .ok (.iaload, 1) := by decide +kernel
theorem dX5_ofVisit_65 : decode cX5_ofVisit 65 = .ok (.ireturn, 1) := by decide +kernel
theorem dX5_ofVisit_66 : decode cX5_ofVisit 66 = .ok (.aload_n 0, 1) := by decide +kernel
theorem dX5_ofVisit_67 : decode cX5_ofVisit 67 = .ok (.getfield 35, 3) := by decide +kernel
theorem dX5_ofVisit_70 : decode cX5_ofVisit 70 = .ok (.iload_n 1, 1) := by decide +kernel
theorem dX5_ofVisit_71 : decode cX5_ofVisit 71 = .ok (.iaload, 1) := by decide +kernel
theorem dX5_ofVisit_72 : decode cX5_ofVisit 72 = .ok (.ireturn, 1) := by decide +kernel
theorem dX5_ofVisit_73 : decode cX5_ofVisit 73 = .ok (.aload_n 0, 1) := by decide +kernel
theorem dX5_ofVisit_74 : decode cX5_ofVisit 74 = .ok (.getfield 35, 3) := by decide +kernel
theorem dX5_ofVisit_77 : decode cX5_ofVisit 77 = .ok (.iload_n 1, 1) := by decide +kernel
theorem dX5_ofVisit_78 : decode cX5_ofVisit 78 = .ok (.iaload, 1) := by decide +kernel
theorem dX5_ofVisit_79 : decode cX5_ofVisit 79 = .ok (.bipush (-6), 2) := by decide +kernel
theorem dX5_ofVisit_81 : decode cX5_ofVisit 81 = .ok (.if_icmp .ne 8, 3) := by decide +kernel
theorem dX5_ofVisit_84 : decode cX5_ofVisit 84 = .ok (.bipush (-6), 2) := by decide +kernel
theorem dX5_ofVisit_86 : decode cX5_ofVisit 86 = .ok (.goto 16, 3) := by decide +kernel
theorem dX5_ofVisit_89 : decode cX5_ofVisit 89 = .ok (.aload_n 0, 1) := by decide +kernel
theorem dX5_ofVisit_90 : decode cX5_ofVisit 90 = .ok (.getfield 35, 3) := by decide +kernel
theorem dX5_ofVisit_93 : decode cX5_ofVisit 93 = .ok (.iload_n 1, 1) := by decide +kernel
theorem dX5_ofVisit_94 : decode cX5_ofVisit 94 = .ok (.iaload, 1) := by decide +kernel
theorem dX5_ofVisit_95 : decode cX5_ofVisit 95 = .ok (.aload_n 0, 1) := by decide +kernel
theorem dX5_ofVisit_96 : decode cX5_ofVisit 96 = .ok (.getfield 7, 3) := by decide +kernel
theorem dX5_ofVisit_99 : decode cX5_ofVisit 99 = .ok (.iconst 1, 1) := by decide +kernel
theorem dX5_ofVisit_100 : decode cX5_ofVisit 100 = .ok (.iaload, 1) := by decide +kernel
theorem dX5_ofVisit_101 : decode cX5_ofVisit 101 = .ok (.iadd, 1) := by decide +kernel
theorem dX5_ofVisit_102 : decode cX5_ofVisit 102 = .ok (.ireturn, 1) := by decide +kernel
theorem dX5_ofVisit_103 : decode cX5_ofVisit 103 = .ok (.iload_n 2, 1) := by decide +kernel
theorem dX5_ofVisit_104 : decode cX5_ofVisit 104 = .ok (.iconst 0, 1) := by decide +kernel
theorem dX5_ofVisit_105 : decode cX5_ofVisit 105 = .ok (.iconst 5, 1) := by decide +kernel
theorem dX5_ofVisit_106 : decode cX5_ofVisit 106 = .ok (.invokestatic 107, 3) := by decide +kernel
theorem dX5_ofVisit_109 : decode cX5_ofVisit 109 = .ok (.ifCond .eq 12, 3) := by decide +kernel
theorem dX5_ofVisit_112 : decode cX5_ofVisit 112 = .ok (.aload_n 0, 1) := by decide +kernel
theorem dX5_ofVisit_113 : decode cX5_ofVisit 113 = .ok (.iload_n 1, 1) := by decide +kernel
theorem dX5_ofVisit_114 : decode cX5_ofVisit 114 = .ok (.iload_n 2, 1) := by decide +kernel
theorem dX5_ofVisit_115 : decode cX5_ofVisit 115 = .ok (.invokevirtual 73, 3) := by decide +kernel
theorem dX5_ofVisit_118 : decode cX5_ofVisit 118 = .ok (.goto 5, 3) := by decide +kernel
theorem dX5_ofVisit_121 : decode cX5_ofVisit 121 = .ok (.bipush (-2), 2) := by decide +kernel
theorem dX5_ofVisit_123 : decode cX5_ofVisit 123 = .ok (.ireturn, 1) := by decide +kernel
theorem dX5_visitsOf_0 : decode cX5_visitsOf 0 = .ok (.iconst 0, 1) := by decide +kernel
theorem dX5_visitsOf_1 : decode cX5_visitsOf 1 = .ok (.istore_n 2, 1) := by decide +kernel
theorem dX5_visitsOf_2 : decode cX5_visitsOf 2 = .ok (.iconst 0, 1) := by decide +kernel
theorem dX5_visitsOf_3 : decode cX5_visitsOf 3 = .ok (.istore_n 3, 1) := by decide +kernel
theorem dX5_visitsOf_4 : decode cX5_visitsOf 4 = .ok (.iload_n 3, 1) := by decide +kernel
theorem dX5_visitsOf_5 : decode cX5_visitsOf 5 = .ok (.aload_n 0, 1) := by decide +kernel
theorem dX5_visitsOf_6 : decode cX5_visitsOf 6 = .ok (.getfield 7, 3) := by decide +kernel
theorem dX5_visitsOf_9 : decode cX5_visitsOf 9 = .ok (.iconst 3, 1) := by decide +kernel
theorem dX5_visitsOf_10 : decode cX5_visitsOf 10 = .ok (.iaload, 1) := by decide +kernel
theorem dX5_visitsOf_11 : decode cX5_visitsOf 11 = .ok (.if_icmp .ge 29, 3) := by decide +kernel
theorem dX5_visitsOf_14 : decode cX5_visitsOf 14 = .ok (.iload_n 2, 1) := by decide +kernel
theorem dX5_visitsOf_15 : decode cX5_visitsOf 15 = .ok (.aload_n 0, 1) := by decide +kernel
theorem dX5_visitsOf_16 : decode cX5_visitsOf 16 = .ok (.getfield 32, 3) := by decide +kernel
theorem dX5_visitsOf_19 : decode cX5_visitsOf 19 = .ok (.iload_n 3, 1) := by decide +kernel
theorem dX5_visitsOf_20 : decode cX5_visitsOf 20 = .ok (.iaload, 1) := by decide +kernel
theorem dX5_visitsOf_21 : decode cX5_visitsOf 21 = .ok (.iload_n 1, 1) := by decide +kernel
theorem dX5_visitsOf_22 : decode cX5_visitsOf 22 = .ok (.if_icmp .ne 9, 3) := by decide +kernel
theorem dX5_visitsOf_25 : decode cX5_visitsOf 25 = .ok (.iconst 1, 1) := by decide +kernel
theorem dX5_visitsOf_26 : decode cX5_visitsOf 26 = .ok (.iload_n 3, 1) := by decide +kernel
theorem dX5_visitsOf_27 : decode cX5_visitsOf 27 = .ok (.ishl, 1) := by decide +kernel
theorem dX5_visitsOf_28 : decode cX5_visitsOf 28 = .ok (.goto 4, 3) := by decide +kernel
theorem dX5_visitsOf_31 : decode cX5_visitsOf 31 = .ok (.iconst 0, 1) := by decide +kernel
theorem dX5_visitsOf_32 : decode cX5_visitsOf 32 = .ok (.ior, 1) := by decide +kernel
theorem dX5_visitsOf_33 : decode cX5_visitsOf 33 = .ok (.istore_n 2, 1) := by decide +kernel
theorem dX5_visitsOf_34 : decode cX5_visitsOf 34 = .ok (.iinc 3 1, 3) := by decide +kernel
theorem dX5_visitsOf_37 : decode cX5_visitsOf 37 = .ok (.goto (-33), 3) := by decide +kernel
theorem dX5_visitsOf_40 : decode cX5_visitsOf 40 = .ok (.iload_n 2, 1) := by decide +kernel
theorem dX5_visitsOf_41 : decode cX5_visitsOf 41 = .ok (.ireturn, 1) := by decide +kernel
theorem dX5_eventsOf_0 : decode cX5_eventsOf 0 = .ok (.iconst 0, 1) := by decide +kernel
theorem dX5_eventsOf_1 : decode cX5_eventsOf 1 = .ok (.istore_n 2, 1) := by decide +kernel
theorem dX5_eventsOf_2 : decode cX5_eventsOf 2 = .ok (.iconst 0, 1) := by decide +kernel
theorem dX5_eventsOf_3 : decode cX5_eventsOf 3 = .ok (.istore_n 3, 1) := by decide +kernel
theorem dX5_eventsOf_4 : decode cX5_eventsOf 4 = .ok (.iload_n 3, 1) := by decide +kernel
theorem dX5_eventsOf_5 : decode cX5_eventsOf 5 = .ok (.aload_n 0, 1) := by decide +kernel
theorem dX5_eventsOf_6 : decode cX5_eventsOf 6 = .ok (.getfield 7, 3) := by decide +kernel
theorem dX5_eventsOf_9 : decode cX5_eventsOf 9 = .ok (.iconst 3, 1) := by decide +kernel
theorem dX5_eventsOf_10 : decode cX5_eventsOf 10 = .ok (.iaload, 1) := by decide +kernel
theorem dX5_eventsOf_11 : decode cX5_eventsOf 11 = .ok (.if_icmp .ge 73, 3) := by decide +kernel
theorem dX5_eventsOf_14 : decode cX5_eventsOf 14 = .ok (.iconst 1, 1) := by decide +kernel
theorem dX5_eventsOf_15 : decode cX5_eventsOf 15 = .ok (.aload_n 0, 1) := by decide +kernel
theorem dX5_eventsOf_16 : decode cX5_eventsOf 16 = .ok (.getfield 38, 3) := by decide +kernel
theorem dX5_eventsOf_19 : decode cX5_eventsOf 19 = .ok (.iload_n 3, 1) := by decide +kernel
theorem dX5_eventsOf_20 : decode cX5_eventsOf 20 = .ok (.iaload, 1) := by decide +kernel
theorem dX5_eventsOf_21 : decode cX5_eventsOf 21 = .ok (.aload_n 0, 1) := by decide +kernel
theorem dX5_eventsOf_22 : decode cX5_eventsOf 22 = .ok (.getfield 41, 3) := by decide +kernel
theorem dX5_eventsOf_25 : decode cX5_eventsOf 25 = .ok (.iload_n 3, 1) := by decide +kernel
theorem dX5_eventsOf_26 : decode cX5_eventsOf 26 = .ok (.iaload, 1) := by decide +kernel
theorem dX5_eventsOf_27 : decode cX5_eventsOf 27 = .ok (.if_icmp .le 7, 3) := by decide +kernel
theorem dX5_eventsOf_30 : decode cX5_eventsOf 30 = .ok (.iconst 1, 1) := by decide +kernel
theorem dX5_eventsOf_31 : decode cX5_eventsOf 31 = .ok (.goto 4, 3) := by decide +kernel
theorem dX5_eventsOf_34 : decode cX5_eventsOf 34 = .ok (.iconst 0, 1) := by decide +kernel
theorem dX5_eventsOf_35 : decode cX5_eventsOf 35 = .ok (.iadd, 1) := by decide +kernel
theorem dX5_eventsOf_36 : decode cX5_eventsOf 36 = .ok (.aload_n 0, 1) := by decide +kernel
theorem dX5_eventsOf_37 : decode cX5_eventsOf 37 = .ok (.getfield 35, 3) := by decide +kernel
theorem dX5_eventsOf_40 : decode cX5_eventsOf 40 = .ok (.iload_n 3, 1) := by decide +kernel
theorem dX5_eventsOf_41 : decode cX5_eventsOf 41 = .ok (.iaload, 1) := by decide +kernel
theorem dX5_eventsOf_42 : decode cX5_eventsOf 42 = .ok (.aload_n 0, 1) := by decide +kernel
theorem dX5_eventsOf_43 : decode cX5_eventsOf 43 = .ok (.getfield 38, 3) := by decide +kernel
theorem dX5_eventsOf_46 : decode cX5_eventsOf 46 = .ok (.iload_n 3, 1) := by decide +kernel
theorem dX5_eventsOf_47 : decode cX5_eventsOf 47 = .ok (.iaload, 1) := by decide +kernel
theorem dX5_eventsOf_48 : decode cX5_eventsOf 48 = .ok (.if_icmp .le 7, 3) := by decide +kernel
theorem dX5_eventsOf_51 : decode cX5_eventsOf 51 = .ok (.iconst 1, 1) := by decide +kernel
theorem dX5_eventsOf_52 : decode cX5_eventsOf 52 = .ok (.goto 4, 3) := by decide +kernel
theorem dX5_eventsOf_55 : decode cX5_eventsOf 55 = .ok (.iconst 0, 1) := by decide +kernel
theorem dX5_eventsOf_56 : decode cX5_eventsOf 56 = .ok (.iadd, 1) := by decide +kernel
theorem dX5_eventsOf_57 : decode cX5_eventsOf 57 = .ok (.istore 4, 2) := by decide +kernel
theorem dX5_eventsOf_59 : decode cX5_eventsOf 59 = .ok (.iload_n 2, 1) := by decide +kernel
theorem dX5_eventsOf_60 : decode cX5_eventsOf 60 = .ok (.aload_n 0, 1) := by decide +kernel
theorem dX5_eventsOf_61 : decode cX5_eventsOf 61 = .ok (.getfield 32, 3) := by decide +kernel
theorem dX5_eventsOf_64 : decode cX5_eventsOf 64 = .ok (.iload_n 3, 1) := by decide +kernel
theorem dX5_eventsOf_65 : decode cX5_eventsOf 65 = .ok (.iaload, 1) := by decide +kernel
theorem dX5_eventsOf_66 : decode cX5_eventsOf 66 = .ok (.iload_n 1, 1) := by decide +kernel
theorem dX5_eventsOf_67 : decode cX5_eventsOf 67 = .ok (.if_icmp .ne 8, 3) := by decide +kernel
theorem dX5_eventsOf_70 : decode cX5_eventsOf 70 = .ok (.iload 4, 2) := by decide +kernel
theorem dX5_eventsOf_72 : decode cX5_eventsOf 72 = .ok (.goto 4, 3) := by decide +kernel
theorem dX5_eventsOf_75 : decode cX5_eventsOf 75 = .ok (.iconst 0, 1) := by decide +kernel
theorem dX5_eventsOf_76 : decode cX5_eventsOf 76 = .ok (.iadd, 1) := by decide +kernel
theorem dX5_eventsOf_77 : decode cX5_eventsOf 77 = .ok (.istore_n 2, 1) := by decide +kernel
theorem dX5_eventsOf_78 : decode cX5_eventsOf 78 = .ok (.iinc 3 1, 3) := by decide +kernel
theorem dX5_eventsOf_81 : decode cX5_eventsOf 81 = .ok (.goto (-77), 3) := by decide +kernel
theorem dX5_eventsOf_84 : decode cX5_eventsOf 84 = .ok (.iload_n 2, 1) := by decide +kernel
theorem dX5_eventsOf_85 : decode cX5_eventsOf 85 = .ok (.ireturn, 1) := by decide +kernel
set_option maxRecDepth 20000 in
theorem ggX5_ofVan_X5_isVan : GoodIn wsX5_ofVan wsX5_isVan := goodIn_r _ [10, 11, 12, 13, 9, 14, 78, 79, 80, 81, 82, 83, 84, 85, 86, 87, 88, 89, 90, 91, 92, 93, 94, 95, 96, 97, 98, 99, 100] (by decide +kernel) (by decide +kernel)
set_option maxRecDepth 20000 in
theorem gX5_ofVan_X5_isVan : GoodIn wsX5_ofVan (wsV RX5 140 RX5 yX5_isVan wsX5_isVan) := goodIn_app (goodIn_of _ (by decide +kernel)) ggX5_ofVan_X5_isVan
set_option maxRecDepth 20000 in
theorem ggX5_ofVan_X5_plans : GoodIn wsX5_ofVan wsX5_plans := goodIn_r _ [18, 11, 5, 4, 2, 3, 19, 20, 21, 22, 23, 24, 25, 26, 9, 27, 28, 29, 30, 31, 32, 33, 34, 35, 36, 37, 38, 39, 40, 41, 42, 43, 44, 45, 46, 47, 48, 49, 50, 51, 52, 53, 54, 55, 56, 57, 58, 59, 60, 61, 62, 63, 64, 65, 66, 67, 68, 69, 78, 79, 80, 81, 82, 83, 84, 85, 86, 87, 88, 89, 90, 91, 92, 93, 94, 95, 96, 97, 98, 99, 100] (by decide +kernel) (by decide +kernel)
set_option maxRecDepth 20000 in
theorem gX5_ofVan_X5_plans : GoodIn wsX5_ofVan (wsV RX5 146 RX5 yX5_plans wsX5_plans) := goodIn_app (goodIn_of _ (by decide +kernel)) ggX5_ofVan_X5_plans
set_option maxRecDepth 20000 in
theorem ggX5_ofVan_X5_van0 : GoodIn wsX5_ofVan wsX5_van0 := goodIn_r _ [27, 11, 78, 79, 80, 81, 82, 83, 84, 85, 86, 87, 88, 89, 90, 91, 92, 93, 94, 95, 96, 97, 98, 99, 100] (by decide +kernel) (by decide +kernel)
set_option maxRecDepth 20000 in
theorem gX5_ofVan_X5_van0 : GoodIn wsX5_ofVan (wsV RX5 69 RX5 yX5_van0 wsX5_van0) := goodIn_app (goodIn_of _ (by decide +kernel)) ggX5_ofVan_X5_van0
set_option maxRecDepth 20000 in
theorem ggX5_ofVan_X5_visitsOf : GoodIn wsX5_ofVan wsX5_visitsOf := goodIn_r _ [73, 11, 21, 78, 79, 80, 81, 82, 83, 84, 85, 86, 87, 88, 89, 90, 91, 92, 93, 94, 95, 96, 97, 98, 99, 100] (by decide +kernel) (by decide +kernel)
set_option maxRecDepth 20000 in
theorem gX5_ofVan_X5_visitsOf : GoodIn wsX5_ofVan (wsV RX5 149 RX5 yX5_visitsOf wsX5_visitsOf) := goodIn_app (goodIn_of _ (by decide +kernel)) ggX5_ofVan_X5_visitsOf
set_option maxRecDepth 20000 in
theorem ggX5_ofVan_X5_eventsOf : GoodIn wsX5_ofVan wsX5_eventsOf := goodIn_r _ [77, 11, 69, 68, 22, 21, 78, 79, 80, 81, 82, 83, 84, 85, 86, 87, 88, 89, 90, 91, 92, 93, 94, 95, 96, 97, 98, 99, 100] (by decide +kernel) (by decide +kernel)
set_option maxRecDepth 20000 in
theorem gX5_ofVan_X5_eventsOf : GoodIn wsX5_ofVan (wsV RX5 152 RX5 yX5_eventsOf wsX5_eventsOf) := goodIn_app (goodIn_of _ (by decide +kernel)) ggX5_ofVan_X5_eventsOf
theorem dX5_ofVan_0 : decode cX5_ofVan 0 = .ok (.aload_n 0, 1) := by decide +kernel
theorem dX5_ofVan_1 : decode cX5_ofVan 1 = .ok (.iconst 0, 1) := by decide +kernel
theorem dX5_ofVan_2 : decode cX5_ofVan 2 = .ok (.putfield 62, 3) := by decide +kernel
theorem dX5_ofVan_5 : decode cX5_ofVan 5 = .ok (.aload_n 0, 1) := by decide +kernel
theorem dX5_ofVan_6 : decode cX5_ofVan 6 = .ok (.iload_n 1, 1) := by decide +kernel
theorem dX5_ofVan_7 : decode cX5_ofVan 7 = .ok (.invokevirtual 140, 3) := by decide +kernel
theorem dX5_ofVan_10 : decode cX5_ofVan 10 = .ok (.ifCond .ne 5, 3) := by decide +kernel
theorem dX5_ofVan_13 : decode cX5_ofVan 13 = .ok (.iconst (-1), 1) := by decide +kernel
theorem dX5_ofVan_14 : decode cX5_ofVan 14 = .ok (.ireturn, 1) := by decide +kernel
theorem dX5_ofVan_15 : decode cX5_ofVan 15 = .ok (.aload_n 0, 1) := by decide +kernel
theorem dX5_ofVan_16 : decode cX5_ofVan 16 = .ok (.invokevirtual 146, 3) := by decide +kernel
theorem dX5_ofVan_19 : decode cX5_ofVan 19 = .ok (.iload_n 2, 1) := by decide +kernel
theorem dX5_ofVan_20 : decode cX5_ofVan 20 = .ok (.tableswitch 95 0 7 #[48, 48, 55, 61, 68, 75, 82, 89], 48) := by decide +kernel
theorem dX5_ofVan_68 : decode cX5_ofVan 68 = .ok (.aload_n 0, 1) := by decide +kernel
theorem dX5_ofVan_69 : decode cX5_ofVan 69 = .ok (.iload_n 1, 1) := by decide +kernel
theorem dX5_ofVan_70 : decode cX5_ofVan 70 = .ok (.iload_n 2, 1) := by decide +kernel
theorem dX5_ofVan_71 : decode cX5_ofVan 71 = .ok (.invokevirtual 69, 3) := by decide +kernel
theorem dX5_ofVan_74 : decode cX5_ofVan 74 = .ok (.ireturn, 1) := by decide +kernel
theorem dX5_ofVan_75 : decode cX5_ofVan 75 = .ok (.aload_n 0, 1) := by decide +kernel
theorem dX5_ofVan_76 : decode cX5_ofVan 76 = .ok (.iload_n 1, 1) := by decide +kernel
theorem dX5_ofVan_77 : decode cX5_ofVan 77 = .ok (.invokevirtual 149, 3) := by decide +kernel
theorem dX5_ofVan_80 : decode cX5_ofVan 80 = .ok (.ireturn, 1) := by decide +kernel
theorem dX5_ofVan_81 : decode cX5_ofVan 81 = .ok (.aload_n 0, 1) := by decide +kernel
theorem dX5_ofVan_82 : decode cX5_ofVan 82 = .ok (.getfield 53, 3) := by decide +kernel
theorem dX5_ofVan_85 : decode cX5_ofVan 85 = .ok (.iload_n 1, 1) := by decide +kernel
theorem dX5_ofVan_86 : decode cX5_ofVan 86 = .ok (.iaload, 1) := by decide +kernel
theorem dX5_ofVan_87 : decode cX5_ofVan 87 = .ok (.ireturn, 1) := by decide +kernel
theorem dX5_ofVan_88 : decode cX5_ofVan 88 = .ok (.aload_n 0, 1) := by decide +kernel
theorem dX5_ofVan_89 : decode cX5_ofVan 89 = .ok (.getfield 56, 3) := by decide +kernel
theorem dX5_ofVan_92 : decode cX5_ofVan 92 = .ok (.iload_n 1, 1) := by decide +kernel
theorem dX5_ofVan_93 : decode cX5_ofVan 93 = .ok (.iaload, 1) := by decide +kernel
theorem dX5_ofVan_94 : decode cX5_ofVan 94 = .ok (.ireturn, 1) := by decide +kernel
theorem dX5_ofVan_95 : decode cX5_ofVan 95 = .ok (.aload_n 0, 1) := by decide +kernel
theorem dX5_ofVan_96 : decode cX5_ofVan 96 = .ok (.getfield 47, 3) := by decide +kernel
theorem dX5_ofVan_99 : decode cX5_ofVan 99 = .ok (.iload_n 1, 1) := by decide +kernel
theorem dX5_ofVan_100 : decode cX5_ofVan 100 = .ok (.iaload, 1) := by decide +kernel
theorem dX5_ofVan_101 : decode cX5_ofVan 101 = .ok (.ireturn, 1) := by decide +kernel
theorem dX5_ofVan_102 : decode cX5_ofVan 102 = .ok (.aload_n 0, 1) := by decide +kernel
theorem dX5_ofVan_103 : decode cX5_ofVan 103 = .ok (.getfield 44, 3) := by decide +kernel
theorem dX5_ofVan_106 : decode cX5_ofVan 106 = .ok (.iload_n 1, 1) := by decide +kernel
theorem dX5_ofVan_107 : decode cX5_ofVan 107 = .ok (.iaload, 1) := by decide +kernel
theorem dX5_ofVan_108 : decode cX5_ofVan 108 = .ok (.ireturn, 1) := by decide +kernel
theorem dX5_ofVan_109 : decode cX5_ofVan 109 = .ok (.aload_n 0, 1) := by decide +kernel
theorem dX5_ofVan_110 : decode cX5_ofVan 110 = .ok (.iload_n 1, 1) := by decide +kernel
theorem dX5_ofVan_111 : decode cX5_ofVan 111 = .ok (.invokevirtual 152, 3) := by decide +kernel
theorem dX5_ofVan_114 : decode cX5_ofVan 114 = .ok (.ireturn, 1) := by decide +kernel
theorem dX5_ofVan_115 : decode cX5_ofVan 115 = .ok (.bipush (-2), 2) := by decide +kernel
theorem dX5_ofVan_117 : decode cX5_ofVan 117 = .ok (.ireturn, 1) := by decide +kernel
set_option maxRecDepth 20000 in
theorem ggX5_stock_X5_isVan : GoodIn wsX5_stock wsX5_isVan := goodIn_r _ [7, 8, 9, 10, 6, 11, 70, 71, 72, 73, 74, 75, 76, 77, 78, 79, 80, 81, 82, 83, 84, 85, 86, 87, 88, 89, 90, 91, 92] (by decide +kernel) (by decide +kernel)
set_option maxRecDepth 20000 in
theorem gX5_stock_X5_isVan : GoodIn wsX5_stock (wsV RX5 140 RX5 yX5_isVan wsX5_isVan) := goodIn_app (goodIn_of _ (by decide +kernel)) ggX5_stock_X5_isVan
set_option maxRecDepth 20000 in
theorem ggX5_stock_X5_in : GoodIn wsX5_stock wsX5_in := goodIn_r _ [11] (by decide +kernel) (by decide +kernel)
set_option maxRecDepth 20000 in
theorem gX5_stock_X5_in : GoodIn wsX5_stock (va_wsS RX5 107 yX5_in wsX5_in) := goodIn_app (goodIn_of _ (by decide +kernel)) ggX5_stock_X5_in
set_option maxRecDepth 20000 in
theorem ggX5_stock_X5_plans : GoodIn wsX5_stock wsX5_plans := goodIn_r _ [15, 8, 16, 17, 18, 19, 2, 20, 21, 22, 23, 24, 25, 26, 6, 27, 28, 29, 30, 31, 32, 33, 34, 35, 36, 37, 38, 39, 40, 41, 42, 43, 44, 45, 46, 47, 48, 49, 50, 51, 52, 53, 54, 55, 56, 57, 58, 59, 60, 61, 62, 63, 64, 65, 66, 67, 68, 69, 70, 71, 72, 73, 74, 75, 76, 77, 78, 79, 80, 81, 82, 83, 84, 85, 86, 87, 88, 89, 90, 91, 92] (by decide +kernel) (by decide +kernel)
set_option maxRecDepth 20000 in
theorem gX5_stock_X5_plans : GoodIn wsX5_stock (wsV RX5 146 RX5 yX5_plans wsX5_plans) := goodIn_app (goodIn_of _ (by decide +kernel)) ggX5_stock_X5_plans
set_option maxRecDepth 20000 in
theorem ggX5_stock_X5_van0 : GoodIn wsX5_stock wsX5_van0 := goodIn_r _ [27, 8, 70, 71, 72, 73, 74, 75, 76, 77, 78, 79, 80, 81, 82, 83, 84, 85, 86, 87, 88, 89, 90, 91, 92] (by decide +kernel) (by decide +kernel)
set_option maxRecDepth 20000 in
theorem gX5_stock_X5_van0 : GoodIn wsX5_stock (wsV RX5 69 RX5 yX5_van0 wsX5_van0) := goodIn_app (goodIn_of _ (by decide +kernel)) ggX5_stock_X5_van0
theorem dX5_stock_0 : decode cX5_stock 0 = .ok (.aload_n 0, 1) := by decide +kernel
theorem dX5_stock_1 : decode cX5_stock 1 = .ok (.iconst 0, 1) := by decide +kernel
theorem dX5_stock_2 : decode cX5_stock 2 = .ok (.putfield 62, 3) := by decide +kernel
theorem dX5_stock_5 : decode cX5_stock 5 = .ok (.aload_n 0, 1) := by decide +kernel
theorem dX5_stock_6 : decode cX5_stock 6 = .ok (.iload_n 1, 1) := by decide +kernel
theorem dX5_stock_7 : decode cX5_stock 7 = .ok (.invokevirtual 140, 3) := by decide +kernel
theorem dX5_stock_10 : decode cX5_stock 10 = .ok (.ifCond .eq 12, 3) := by decide +kernel
theorem dX5_stock_13 : decode cX5_stock 13 = .ok (.iload_n 2, 1) := by decide +kernel
theorem dX5_stock_14 : decode cX5_stock 14 = .ok (.iconst 0, 1) := by decide +kernel
theorem dX5_stock_15 : decode cX5_stock 15 = .ok (.iconst 4, 1) := by decide +kernel
theorem dX5_stock_16 : decode cX5_stock 16 = .ok (.invokestatic 107, 3) := by decide +kernel
theorem dX5_stock_19 : decode cX5_stock 19 = .ok (.ifCond .ne 5, 3) := by decide +kernel
theorem dX5_stock_22 : decode cX5_stock 22 = .ok (.iconst (-1), 1) := by decide +kernel
theorem dX5_stock_23 : decode cX5_stock 23 = .ok (.ireturn, 1) := by decide +kernel
theorem dX5_stock_24 : decode cX5_stock 24 = .ok (.aload_n 0, 1) := by decide +kernel
theorem dX5_stock_25 : decode cX5_stock 25 = .ok (.invokevirtual 146, 3) := by decide +kernel
theorem dX5_stock_28 : decode cX5_stock 28 = .ok (.aload_n 0, 1) := by decide +kernel
theorem dX5_stock_29 : decode cX5_stock 29 = .ok (.iload_n 1, 1) := by decide +kernel
theorem dX5_stock_30 : decode cX5_stock 30 = .ok (.iconst 2, 1) := by decide +kernel
theorem dX5_stock_31 : decode cX5_stock 31 = .ok (.iload_n 2, 1) := by decide +kernel
theorem dX5_stock_32 : decode cX5_stock 32 = .ok (.iadd, 1) := by decide +kernel
theorem dX5_stock_33 : decode cX5_stock 33 = .ok (.invokevirtual 69, 3) := by decide +kernel
theorem dX5_stock_36 : decode cX5_stock 36 = .ok (.istore 4, 2) := by decide +kernel
theorem dX5_stock_38 : decode cX5_stock 38 = .ok (.aload_n 0, 1) := by decide +kernel
theorem dX5_stock_39 : decode cX5_stock 39 = .ok (.getfield 50, 3) := by decide +kernel
theorem dX5_stock_42 : decode cX5_stock 42 = .ok (.iconst 5, 1) := by decide +kernel
theorem dX5_stock_43 : decode cX5_stock 43 = .ok (.iload_n 1, 1) := by decide +kernel
theorem dX5_stock_44 : decode cX5_stock 44 = .ok (.imul, 1) := by decide +kernel
theorem dX5_stock_45 : decode cX5_stock 45 = .ok (.iload_n 2, 1) := by decide +kernel
theorem dX5_stock_46 : decode cX5_stock 46 = .ok (.iadd, 1) := by decide +kernel
theorem dX5_stock_47 : decode cX5_stock 47 = .ok (.iaload, 1) := by decide +kernel
theorem dX5_stock_48 : decode cX5_stock 48 = .ok (.istore 5, 2) := by decide +kernel
theorem dX5_stock_50 : decode cX5_stock 50 = .ok (.iload_n 3, 1) := by decide +kernel
theorem dX5_stock_51 : decode cX5_stock 51 = .ok (.ifCond .ne 8, 3) := by decide +kernel
theorem dX5_stock_54 : decode cX5_stock 54 = .ok (.iload 4, 2) := by decide +kernel
theorem dX5_stock_56 : decode cX5_stock 56 = .ok (.goto 28, 3) := by decide +kernel
theorem dX5_stock_59 : decode cX5_stock 59 = .ok (.iload_n 3, 1) := by decide +kernel
theorem dX5_stock_60 : decode cX5_stock 60 = .ok (.iconst 1, 1) := by decide +kernel
theorem dX5_stock_61 : decode cX5_stock 61 = .ok (.if_icmp .ne 11, 3) := by decide +kernel
theorem dX5_stock_64 : decode cX5_stock 64 = .ok (.iload 4, 2) := by decide +kernel
theorem dX5_stock_66 : decode cX5_stock 66 = .ok (.iload 5, 2) := by decide +kernel
theorem dX5_stock_68 : decode cX5_stock 68 = .ok (.isub, 1) := by decide +kernel
theorem dX5_stock_69 : decode cX5_stock 69 = .ok (.goto 15, 3) := by decide +kernel
theorem dX5_stock_72 : decode cX5_stock 72 = .ok (.iload_n 3, 1) := by decide +kernel
theorem dX5_stock_73 : decode cX5_stock 73 = .ok (.iconst 2, 1) := by decide +kernel
theorem dX5_stock_74 : decode cX5_stock 74 = .ok (.if_icmp .ne 8, 3) := by decide +kernel
theorem dX5_stock_77 : decode cX5_stock 77 = .ok (.iload 5, 2) := by decide +kernel
theorem dX5_stock_79 : decode cX5_stock 79 = .ok (.goto 5, 3) := by decide +kernel
theorem dX5_stock_82 : decode cX5_stock 82 = .ok (.bipush (-2), 2) := by decide +kernel
theorem dX5_stock_84 : decode cX5_stock 84 = .ok (.ireturn, 1) := by decide +kernel
theorem dX5_nextVisit_0 : decode cX5_nextVisit 0 = .ok (.bipush (-6), 2) := by decide +kernel
theorem dX5_nextVisit_2 : decode cX5_nextVisit 2 = .ok (.istore_n 3, 1) := by decide +kernel
theorem dX5_nextVisit_3 : decode cX5_nextVisit 3 = .ok (.iconst 0, 1) := by decide +kernel
theorem dX5_nextVisit_4 : decode cX5_nextVisit 4 = .ok (.istore 4, 2) := by decide +kernel
theorem dX5_nextVisit_6 : decode cX5_nextVisit 6 = .ok (.iload 4, 2) := by decide +kernel
theorem dX5_nextVisit_8 : decode cX5_nextVisit 8 = .ok (.aload_n 0, 1) := by decide +kernel
theorem dX5_nextVisit_9 : decode cX5_nextVisit 9 = .ok (.getfield 7, 3) := by decide +kernel
theorem dX5_nextVisit_12 : decode cX5_nextVisit 12 = .ok (.iconst 3, 1) := by decide +kernel
theorem dX5_nextVisit_13 : decode cX5_nextVisit 13 = .ok (.iaload, 1) := by decide +kernel
theorem dX5_nextVisit_14 : decode cX5_nextVisit 14 = .ok (.if_icmp .ge 72, 3) := by decide +kernel
theorem dX5_nextVisit_17 : decode cX5_nextVisit 17 = .ok (.aload_n 0, 1) := by decide +kernel
theorem dX5_nextVisit_18 : decode cX5_nextVisit 18 = .ok (.getfield 32, 3) := by decide +kernel
theorem dX5_nextVisit_21 : decode cX5_nextVisit 21 = .ok (.iload 4, 2) := by decide +kernel
theorem dX5_nextVisit_23 : decode cX5_nextVisit 23 = .ok (.iaload, 1) := by decide +kernel
theorem dX5_nextVisit_24 : decode cX5_nextVisit 24 = .ok (.iload_n 1, 1) := by decide +kernel
theorem dX5_nextVisit_25 : decode cX5_nextVisit 25 = .ok (.if_icmp .ne 40, 3) := by decide +kernel
theorem dX5_nextVisit_28 : decode cX5_nextVisit 28 = .ok (.aload_n 0, 1) := by decide +kernel
theorem dX5_nextVisit_29 : decode cX5_nextVisit 29 = .ok (.getfield 35, 3) := by decide +kernel
theorem dX5_nextVisit_32 : decode cX5_nextVisit 32 = .ok (.iload 4, 2) := by decide +kernel
theorem dX5_nextVisit_34 : decode cX5_nextVisit 34 = .ok (.iaload, 1) := by decide +kernel
theorem dX5_nextVisit_35 : decode cX5_nextVisit 35 = .ok (.iload_n 2, 1) := by decide +kernel
theorem dX5_nextVisit_36 : decode cX5_nextVisit 36 = .ok (.if_icmp .le 29, 3) := by decide +kernel
theorem dX5_nextVisit_39 : decode cX5_nextVisit 39 = .ok (.iload_n 3, 1) := by decide +kernel
theorem dX5_nextVisit_40 : decode cX5_nextVisit 40 = .ok (.bipush (-6), 2) := by decide +kernel
theorem dX5_nextVisit_42 : decode cX5_nextVisit 42 = .ok (.if_icmp .eq 19, 3) := by decide +kernel
theorem dX5_nextVisit_45 : decode cX5_nextVisit 45 = .ok (.aload_n 0, 1) := by decide +kernel
theorem dX5_nextVisit_46 : decode cX5_nextVisit 46 = .ok (.getfield 35, 3) := by decide +kernel
theorem dX5_nextVisit_49 : decode cX5_nextVisit 49 = .ok (.iload 4, 2) := by decide +kernel
theorem dX5_nextVisit_51 : decode cX5_nextVisit 51 = .ok (.iaload, 1) := by decide +kernel
theorem dX5_nextVisit_52 : decode cX5_nextVisit 52 = .ok (.aload_n 0, 1) := by decide +kernel
theorem dX5_nextVisit_53 : decode cX5_nextVisit 53 = .ok (.getfield 35, 3) := by decide +kernel
theorem dX5_nextVisit_56 : decode cX5_nextVisit 56 = .ok (.iload_n 3, 1) := by decide +kernel
theorem dX5_nextVisit_57 : decode cX5_nextVisit 57 = .ok (.iaload, 1) := by decide +kernel
theorem dX5_nextVisit_58 : decode cX5_nextVisit 58 = .ok (.if_icmp .ge 7, 3) := by decide +kernel
theorem dX5_nextVisit_61 : decode cX5_nextVisit 61 = .ok (.iconst 1, 1) := by decide +kernel
theorem dX5_nextVisit_62 : decode cX5_nextVisit 62 = .ok (.goto 4, 3) := by decide +kernel
theorem dX5_nextVisit_65 : decode cX5_nextVisit 65 = .ok (.iconst 0, 1) := by decide +kernel
theorem dX5_nextVisit_66 : decode cX5_nextVisit 66 = .ok (.istore 5, 2) := by decide +kernel
theorem dX5_nextVisit_68 : decode cX5_nextVisit 68 = .ok (.iload 5, 2) := by decide +kernel
theorem dX5_nextVisit_70 : decode cX5_nextVisit 70 = .ok (.ifCond .eq 8, 3) := by decide +kernel
theorem dX5_nextVisit_73 : decode cX5_nextVisit 73 = .ok (.iload 4, 2) := by decide +kernel
theorem dX5_nextVisit_75 : decode cX5_nextVisit 75 = .ok (.goto 4, 3) := by decide +kernel
theorem dX5_nextVisit_78 : decode cX5_nextVisit 78 = .ok (.iload_n 3, 1) := by decide +kernel
theorem dX5_nextVisit_79 : decode cX5_nextVisit 79 = .ok (.istore_n 3, 1) := by decide +kernel
theorem dX5_nextVisit_80 : decode cX5_nextVisit 80 = .ok (.iinc 4 1, 3) := by decide +kernel
theorem dX5_nextVisit_83 : decode cX5_nextVisit 83 = .ok (.goto (-77), 3) := by decide +kernel
theorem dX5_nextVisit_86 : decode cX5_nextVisit 86 = .ok (.iload_n 3, 1) := by decide +kernel
theorem dX5_nextVisit_87 : decode cX5_nextVisit 87 = .ok (.ireturn, 1) := by decide +kernel
theorem dX5_tells_0 : decode cX5_tells 0 = .ok (.iload 5, 2) := by decide +kernel
theorem dX5_tells_2 : decode cX5_tells 2 = .ok (.ifCond .ne 7, 3) := by decide +kernel
theorem dX5_tells_5 : decode cX5_tells 5 = .ok (.iload_n 1, 1) := by decide +kernel
theorem dX5_tells_6 : decode cX5_tells 6 = .ok (.goto 36, 3) := by decide +kernel
theorem dX5_tells_9 : decode cX5_tells 9 = .ok (.iload 5, 2) := by decide +kernel
theorem dX5_tells_11 : decode cX5_tells 11 = .ok (.iconst 1, 1) := by decide +kernel
theorem dX5_tells_12 : decode cX5_tells 12 = .ok (.if_icmp .ne 7, 3) := by decide +kernel
theorem dX5_tells_15 : decode cX5_tells 15 = .ok (.iload_n 2, 1) := by decide +kernel
theorem dX5_tells_16 : decode cX5_tells 16 = .ok (.goto 26, 3) := by decide +kernel
theorem dX5_tells_19 : decode cX5_tells 19 = .ok (.iload 5, 2) := by decide +kernel
theorem dX5_tells_21 : decode cX5_tells 21 = .ok (.iconst 2, 1) := by decide +kernel
theorem dX5_tells_22 : decode cX5_tells 22 = .ok (.if_icmp .ne 7, 3) := by decide +kernel
theorem dX5_tells_25 : decode cX5_tells 25 = .ok (.iload_n 3, 1) := by decide +kernel
theorem dX5_tells_26 : decode cX5_tells 26 = .ok (.goto 16, 3) := by decide +kernel
theorem dX5_tells_29 : decode cX5_tells 29 = .ok (.iload 5, 2) := by decide +kernel
theorem dX5_tells_31 : decode cX5_tells 31 = .ok (.iconst 3, 1) := by decide +kernel
theorem dX5_tells_32 : decode cX5_tells 32 = .ok (.if_icmp .ne 8, 3) := by decide +kernel
theorem dX5_tells_35 : decode cX5_tells 35 = .ok (.iload 4, 2) := by decide +kernel
theorem dX5_tells_37 : decode cX5_tells 37 = .ok (.goto 5, 3) := by decide +kernel
theorem dX5_tells_40 : decode cX5_tells 40 = .ok (.bipush (-2), 2) := by decide +kernel
theorem dX5_tells_42 : decode cX5_tells 42 = .ok (.ireturn, 1) := by decide +kernel
