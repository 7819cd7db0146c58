set_option maxRecDepth 20000 in
theorem ggX5_event_X5_isVan : GoodIn wsX5_event wsX5_isVan := goodIn_r _ [10, 5, 11, 12, 9, 13, 82, 83, 84, 85, 86, 87, 88, 89, 90, 91, 92, 93, 94, 95, 96, 97, 98, 99, 100, 101, 102, 103, 104] (by decide +kernel) (by decide +kernel)
set_option maxRecDepth 20000 in
theorem gX5_event_X5_isVan : GoodIn wsX5_event (wsV RX5 140 RX5 yX5_isVan wsX5_isVan) := goodIn_app (goodIn_of _ (by decide +kernel)) ggX5_event_X5_isVan
set_option maxRecDepth 20000 in
theorem ggX5_event_X5_plans : GoodIn wsX5_event wsX5_plans := goodIn_r _ [17, 5, 18, 19, 20, 21, 22, 23, 24, 4, 25, 26, 27, 28, 9, 29, 30, 31, 32, 33, 34, 35, 36, 37, 38, 39, 40, 41, 42, 43, 44, 45, 46, 47, 48, 49, 50, 51, 52, 53, 54, 55, 56, 57, 58, 59, 60, 61, 62, 63, 64, 65, 66, 67, 68, 69, 3, 2, 82, 83, 84, 85, 86, 87, 88, 89, 90, 91, 92, 93, 94, 95, 96, 97, 98, 99, 100, 101, 102, 103, 104] (by decide +kernel) (by decide +kernel)
set_option maxRecDepth 20000 in
theorem gX5_event_X5_plans : GoodIn wsX5_event (wsV RX5 146 RX5 yX5_plans wsX5_plans) := goodIn_app (goodIn_of _ (by decide +kernel)) ggX5_event_X5_plans
set_option maxRecDepth 20000 in
theorem ggX5_event_X5_eventsOf : GoodIn wsX5_event wsX5_eventsOf := goodIn_r _ [73, 5, 2, 3, 4, 24, 82, 83, 84, 85, 86, 87, 88, 89, 90, 91, 92, 93, 94, 95, 96, 97, 98, 99, 100, 101, 102, 103, 104] (by decide +kernel) (by decide +kernel)
set_option maxRecDepth 20000 in
theorem gX5_event_X5_eventsOf : GoodIn wsX5_event (wsV RX5 152 RX5 yX5_eventsOf wsX5_eventsOf) := goodIn_app (goodIn_of _ (by decide +kernel)) ggX5_event_X5_eventsOf
set_option maxRecDepth 20000 in
theorem ggX5_event_X5_in : GoodIn wsX5_event wsX5_in := goodIn_r _ [13] (by decide +kernel) (by decide +kernel)
set_option maxRecDepth 20000 in
theorem gX5_event_X5_in : GoodIn wsX5_event (va_wsS RX5 107 yX5_in wsX5_in) := goodIn_app (goodIn_of _ (by decide +kernel)) ggX5_event_X5_in
set_option maxRecDepth 20000 in
theorem ggX5_event_X5_nextVisit : GoodIn wsX5_event wsX5_nextVisit := goodIn_r _ [77, 5, 24, 4, 82, 83, 84, 85, 86, 87, 88, 89, 90, 91, 92, 93, 94, 95, 96, 97, 98, 99, 100, 101, 102, 103, 104] (by decide +kernel) (by decide +kernel)
set_option maxRecDepth 20000 in
theorem gX5_event_X5_nextVisit : GoodIn wsX5_event (wsV RX5 155 RX5 yX5_nextVisit wsX5_nextVisit) := goodIn_app (goodIn_of _ (by decide +kernel)) ggX5_event_X5_nextVisit
set_option maxRecDepth 20000 in
theorem ggX5_event_X5_tells : GoodIn wsX5_event wsX5_tells := goodIn_r _ [81] (by decide +kernel) (by decide +kernel)
set_option maxRecDepth 20000 in
theorem gX5_event_X5_tells : GoodIn wsX5_event (wsV RX5 158 RX5 yX5_tells wsX5_tells) := goodIn_app (goodIn_of _ (by decide +kernel)) ggX5_event_X5_tells
theorem dX5_event_0 : decode cX5_event 0 = .ok (.aload_n 0, 1) := by decide +kernel
theorem dX5_event_1 : decode cX5_event 1 = .ok (.iconst 0, 1) := by decide +kernel
theorem dX5_event_2 : decode cX5_event 2 = .ok (.putfield 62, 3) := by decide +kernel
theorem dX5_event_5 : decode cX5_event 5 = .ok (.aload_n 0, 1) := by decide +kernel
theorem dX5_event_6 : decode cX5_event 6 = .ok (.iload_n 1, 1) := by decide +kernel
theorem dX5_event_7 : decode cX5_event 7 = .ok (.invokevirtual 140, 3) := by decide +kernel
theorem dX5_event_10 : decode cX5_event 10 = .ok (.ifCond .ne 5, 3) := by decide +kernel
theorem dX5_event_13 : decode cX5_event 13 = .ok (.iconst (-1), 1) := by decide +kernel
theorem dX5_event_14 : decode cX5_event 14 = .ok (.ireturn, 1) := by decide +kernel
theorem dX5_event_15 : decode cX5_event 15 = .ok (.aload_n 0, 1) := by decide +kernel
theorem dX5_event_16 : decode cX5_event 16 = .ok (.invokevirtual 146, 3) := by decide +kernel
theorem dX5_event_19 : decode cX5_event 19 = .ok (.iload_n 2, 1) := by decide +kernel
theorem dX5_event_20 : decode cX5_event 20 = .ok (.iconst 0, 1) := by decide +kernel
theorem dX5_event_21 : decode cX5_event 21 = .ok (.aload_n 0, 1) := by decide +kernel
theorem dX5_event_22 : decode cX5_event 22 = .ok (.iload_n 1, 1) := by decide +kernel
theorem dX5_event_23 : decode cX5_event 23 = .ok (.invokevirtual 152, 3) := by decide +kernel
theorem dX5_event_26 : decode cX5_event 26 = .ok (.iconst 1, 1) := by decide +kernel
theorem dX5_event_27 : decode cX5_event 27 = .ok (.isub, 1) := by decide +kernel
theorem dX5_event_28 : decode cX5_event 28 = .ok (.invokestatic 107, 3) := by decide +kernel
theorem dX5_event_31 : decode cX5_event 31 = .ok (.ifCond .ne 5, 3) := by decide +kernel
theorem dX5_event_34 : decode cX5_event 34 = .ok (.iconst (-1), 1) := by decide +kernel
theorem dX5_event_35 : decode cX5_event 35 = .ok (.ireturn, 1) := by decide +kernel
theorem dX5_event_36 : decode cX5_event 36 = .ok (.iload_n 2, 1) := by decide +kernel
theorem dX5_event_37 : decode cX5_event 37 = .ok (.istore 4, 2) := by decide +kernel
theorem dX5_event_39 : decode cX5_event 39 = .ok (.aload_n 0, 1) := by decide +kernel
theorem dX5_event_40 : decode cX5_event 40 = .ok (.iload_n 1, 1) := by decide +kernel
theorem dX5_event_41 : decode cX5_event 41 = .ok (.iconst (-1), 1) := by decide +kernel
theorem dX5_event_42 : decode cX5_event 42 = .ok (.invokevirtual 155, 3) := by decide +kernel
theorem dX5_event_45 : decode cX5_event 45 = .ok (.istore 5, 2) := by decide +kernel
theorem dX5_event_47 : decode cX5_event 47 = .ok (.aload_n 0, 1) := by decide +kernel
theorem dX5_event_48 : decode cX5_event 48 = .ok (.getfield 38, 3) := by decide +kernel
theorem dX5_event_51 : decode cX5_event 51 = .ok (.iload 5, 2) := by decide +kernel
theorem dX5_event_53 : decode cX5_event 53 = .ok (.iaload, 1) := by decide +kernel
theorem dX5_event_54 : decode cX5_event 54 = .ok (.aload_n 0, 1) := by decide +kernel
theorem dX5_event_55 : decode cX5_event 55 = .ok (.getfield 41, 3) := by decide +kernel
theorem dX5_event_58 : decode cX5_event 58 = .ok (.iload 5, 2) := by decide +kernel
theorem dX5_event_60 : decode cX5_event 60 = .ok (.iaload, 1) := by decide +kernel
theorem dX5_event_61 : decode cX5_event 61 = .ok (.if_icmp .le 34, 3) := by decide +kernel
theorem dX5_event_64 : decode cX5_event 64 = .ok (.iload 4, 2) := by decide +kernel
theorem dX5_event_66 : decode cX5_event 66 = .ok (.ifCond .ne 26, 3) := by decide +kernel
theorem dX5_event_69 : decode cX5_event 69 = .ok (.aload_n 0, 1) := by decide +kernel
theorem dX5_event_70 : decode cX5_event 70 = .ok (.iconst 0, 1) := by decide +kernel
theorem dX5_event_71 : decode cX5_event 71 = .ok (.aload_n 0, 1) := by decide +kernel
theorem dX5_event_72 : decode cX5_event 72 = .ok (.getfield 41, 3) := by decide +kernel
theorem dX5_event_75 : decode cX5_event 75 = .ok (.iload 5, 2) := by decide +kernel
theorem dX5_event_77 : decode cX5_event 77 = .ok (.iaload, 1) := by decide +kernel
theorem dX5_event_78 : decode cX5_event 78 = .ok (.aload_n 0, 1) := by decide +kernel
theorem dX5_event_79 : decode cX5_event 79 = .ok (.getfield 38, 3) := by decide +kernel
theorem dX5_event_82 : decode cX5_event 82 = .ok (.iload 5, 2) := by decide +kernel
theorem dX5_event_84 : decode cX5_event 84 = .ok (.iaload, 1) := by decide +kernel
theorem dX5_event_85 : decode cX5_event 85 = .ok (.iload 5, 2) := by decide +kernel
theorem dX5_event_87 : decode cX5_event 87 = .ok (.iload_n 3, 1) := by decide +kernel
theorem dX5_event_88 : decode cX5_event 88 = .ok (.invokevirtual 158, 3) := by decide +kernel
theorem dX5_event_91 : decode cX5_event 91 = .ok (.ireturn, 1) := by decide +kernel
theorem dX5_event_92 : decode cX5_event 92 = .ok (.iinc 4 (-1), 3) := by decide +kernel
theorem dX5_event_95 : decode cX5_event 95 = .ok (.aload_n 0, 1) := by decide +kernel
theorem dX5_event_96 : decode cX5_event 96 = .ok (.getfield 35, 3) := by decide +kernel
theorem dX5_event_99 : decode cX5_event 99 = .ok (.iload 5, 2) := by decide +kernel
theorem dX5_event_101 : decode cX5_event 101 = .ok (.iaload, 1) := by decide +kernel
theorem dX5_event_102 : decode cX5_event 102 = .ok (.aload_n 0, 1) := by decide +kernel
theorem dX5_event_103 : decode cX5_event 103 = .ok (.getfield 38, 3) := by decide +kernel
theorem dX5_event_106 : decode cX5_event 106 = .ok (.iload 5, 2) := by decide +kernel
theorem dX5_event_108 : decode cX5_event 108 = .ok (.iaload, 1) := by decide +kernel
theorem dX5_event_109 : decode cX5_event 109 = .ok (.if_icmp .le 34, 3) := by decide +kernel
theorem dX5_event_112 : decode cX5_event 112 = .ok (.iload 4, 2) := by decide +kernel
theorem dX5_event_114 : decode cX5_event 114 = .ok (.ifCond .ne 26, 3) := by decide +kernel
theorem dX5_event_117 : decode cX5_event 117 = .ok (.aload_n 0, 1) := by decide +kernel
theorem dX5_event_118 : decode cX5_event 118 = .ok (.iconst 1, 1) := by decide +kernel
theorem dX5_event_119 : decode cX5_event 119 = .ok (.aload_n 0, 1) := by decide +kernel
theorem dX5_event_120 : decode cX5_event 120 = .ok (.getfield 38, 3) := by decide +kernel
theorem dX5_event_123 : decode cX5_event 123 = .ok (.iload 5, 2) := by decide +kernel
theorem dX5_event_125 : decode cX5_event 125 = .ok (.iaload, 1) := by decide +kernel
theorem dX5_event_126 : decode cX5_event 126 = .ok (.aload_n 0, 1) := by decide +kernel
theorem dX5_event_127 : decode cX5_event 127 = .ok (.getfield 35, 3) := by decide +kernel
theorem dX5_event_130 : decode cX5_event 130 = .ok (.iload 5, 2) := by decide +kernel
theorem dX5_event_132 : decode cX5_event 132 = .ok (.iaload, 1) := by decide +kernel
theorem dX5_event_133 : decode cX5_event 133 = .ok (.iload 5, 2) := by decide +kernel
theorem dX5_event_135 : decode cX5_event 135 = .ok (.iload_n 3, 1) := by decide +kernel
theorem dX5_event_136 : decode cX5_event 136 = .ok (.invokevirtual 158, 3) := by decide +kernel
theorem dX5_event_139 : decode cX5_event 139 = .ok (.ireturn, 1) := by decide +kernel
theorem dX5_event_140 : decode cX5_event 140 = .ok (.iinc 4 (-1), 3) := by decide +kernel
theorem dX5_event_143 : decode cX5_event 143 = .ok (.iload 4, 2) := by decide +kernel
theorem dX5_event_145 : decode cX5_event 145 = .ok (.ifCond .ne 33, 3) := by decide +kernel
theorem dX5_event_148 : decode cX5_event 148 = .ok (.aload_n 0, 1) := by decide +kernel
theorem dX5_event_149 : decode cX5_event 149 = .ok (.iconst 2, 1) := by decide +kernel
theorem dX5_event_150 : decode cX5_event 150 = .ok (.aload_n 0, 1) := by decide +kernel
theorem dX5_event_151 : decode cX5_event 151 = .ok (.getfield 35, 3) := by decide +kernel
theorem dX5_event_154 : decode cX5_event 154 = .ok (.iload 5, 2) := by decide +kernel
theorem dX5_event_156 : decode cX5_event 156 = .ok (.iaload, 1) := by decide +kernel
theorem dX5_event_157 : decode cX5_event 157 = .ok (.aload_n 0, 1) := by decide +kernel
theorem dX5_event_158 : decode cX5_event 158 = .ok (.getfield 35, 3) := by decide +kernel
theorem dX5_event_161 : decode cX5_event 161 = .ok (.iload 5, 2) := by decide +kernel
theorem dX5_event_163 : decode cX5_event 163 = .ok (.iaload, 1) := by decide +kernel
theorem dX5_event_164 : decode cX5_event 164 = .ok (.aload_n 0, 1) := by decide +kernel
theorem dX5_event_165 : decode cX5_event 165 = .ok (.getfield 7, 3) := by decide +kernel
theorem dX5_event_168 : decode cX5_event 168 = .ok (.iconst 1, 1) := by decide +kernel
theorem dX5_event_169 : decode cX5_event 169 = .ok (.iaload, 1) := by decide +kernel
theorem dX5_event_170 : decode cX5_event 170 = .ok (.iadd, 1) := by decide +kernel
theorem dX5_event_171 : decode cX5_event 171 = .ok (.iload 5, 2) := by decide +kernel
theorem dX5_event_173 : decode cX5_event 173 = .ok (.iload_n 3, 1) := by decide +kernel
theorem dX5_event_174 : decode cX5_event 174 = .ok (.invokevirtual 158, 3) := by decide +kernel
theorem dX5_event_177 : decode cX5_event 177 = .ok (.ireturn, 1) := by decide +kernel
theorem dX5_event_178 : decode cX5_event 178 = .ok (.iinc 4 (-1), 3) := by decide +kernel
theorem dX5_event_181 : decode cX5_event 181 = .ok (.aload_n 0, 1) := by decide +kernel
theorem dX5_event_182 : decode cX5_event 182 = .ok (.iload_n 1, 1) := by decide +kernel
theorem dX5_event_183 : decode cX5_event 183 = .ok (.aload_n 0, 1) := by decide +kernel
theorem dX5_event_184 : decode cX5_event 184 = .ok (.getfield 35, 3) := by decide +kernel
theorem dX5_event_187 : decode cX5_event 187 = .ok (.iload 5, 2) := by decide +kernel
theorem dX5_event_189 : decode cX5_event 189 = .ok (.iaload, 1) := by decide +kernel
theorem dX5_event_190 : decode cX5_event 190 = .ok (.invokevirtual 155, 3) := by decide +kernel
theorem dX5_event_193 : decode cX5_event 193 = .ok (.istore 5, 2) := by decide +kernel
theorem dX5_event_195 : decode cX5_event 195 = .ok (.goto (-148), 3) := by decide +kernel
theorem dX5_overVans_0 : decode cX5_overVans 0 = .ok (.iconst 0, 1) := by decide +kernel
theorem dX5_overVans_1 : decode cX5_overVans 1 = .ok (.istore_n 2, 1) := by decide +kernel
theorem dX5_overVans_2 : decode cX5_overVans 2 = .ok (.iconst 0, 1) := by decide +kernel
theorem dX5_overVans_3 : decode cX5_overVans 3 = .ok (.istore_n 3, 1) := by decide +kernel
theorem dX5_overVans_4 : decode cX5_overVans 4 = .ok (.iload_n 3, 1) := by decide +kernel
theorem dX5_overVans_5 : decode cX5_overVans 5 = .ok (.aload_n 0, 1) := by decide +kernel
theorem dX5_overVans_6 : decode cX5_overVans 6 = .ok (.getfield 7, 3) := by decide +kernel
theorem dX5_overVans_9 : decode cX5_overVans 9 = .ok (.iconst 4, 1) := by decide +kernel
theorem dX5_overVans_10 : decode cX5_overVans 10 = .ok (.iaload, 1) := by decide +kernel
theorem dX5_overVans_11 : decode cX5_overVans 11 = .ok (.if_icmp .ge 62, 3) := by decide +kernel
theorem dX5_overVans_14 : decode cX5_overVans 14 = .ok (.iload_n 1, 1) := by decide +kernel
theorem dX5_overVans_15 : decode cX5_overVans 15 = .ok (.bipush 10, 2) := by decide +kernel
theorem dX5_overVans_17 : decode cX5_overVans 17 = .ok (.if_icmp .ne 26, 3) := by decide +kernel
theorem dX5_overVans_20 : decode cX5_overVans 20 = .ok (.aload_n 0, 1) := by decide +kernel
theorem dX5_overVans_21 : decode cX5_overVans 21 = .ok (.getfield 47, 3) := by decide +kernel
theorem dX5_overVans_24 : decode cX5_overVans 24 = .ok (.iload_n 3, 1) := by decide +kernel
theorem dX5_overVans_25 : decode cX5_overVans 25 = .ok (.iaload, 1) := by decide +kernel
theorem dX5_overVans_26 : decode cX5_overVans 26 = .ok (.iload_n 2, 1) := by decide +kernel
theorem dX5_overVans_27 : decode cX5_overVans 27 = .ok (.if_icmp .le 12, 3) := by decide +kernel
theorem dX5_overVans_30 : decode cX5_overVans 30 = .ok (.aload_n 0, 1) := by decide +kernel
theorem dX5_overVans_31 : decode cX5_overVans 31 = .ok (.getfield 47, 3) := by decide +kernel
theorem dX5_overVans_34 : decode cX5_overVans 34 = .ok (.iload_n 3, 1) := by decide +kernel
theorem dX5_overVans_35 : decode cX5_overVans 35 = .ok (.iaload, 1) := by decide +kernel
theorem dX5_overVans_36 : decode cX5_overVans 36 = .ok (.goto 30, 3) := by decide +kernel
theorem dX5_overVans_39 : decode cX5_overVans 39 = .ok (.iload_n 2, 1) := by decide +kernel
theorem dX5_overVans_40 : decode cX5_overVans 40 = .ok (.goto 26, 3) := by decide +kernel
theorem dX5_overVans_43 : decode cX5_overVans 43 = .ok (.iload_n 2, 1) := by decide +kernel
theorem dX5_overVans_44 : decode cX5_overVans 44 = .ok (.iload_n 1, 1) := by decide +kernel
theorem dX5_overVans_45 : decode cX5_overVans 45 = .ok (.bipush 8, 2) := by decide +kernel
theorem dX5_overVans_47 : decode cX5_overVans 47 = .ok (.if_icmp .ne 12, 3) := by decide +kernel
theorem dX5_overVans_50 : decode cX5_overVans 50 = .ok (.aload_n 0, 1) := by decide +kernel
theorem dX5_overVans_51 : decode cX5_overVans 51 = .ok (.getfield 53, 3) := by decide +kernel
theorem dX5_overVans_54 : decode cX5_overVans 54 = .ok (.iload_n 3, 1) := by decide +kernel
theorem dX5_overVans_55 : decode cX5_overVans 55 = .ok (.iaload, 1) := by decide +kernel
theorem dX5_overVans_56 : decode cX5_overVans 56 = .ok (.goto 9, 3) := by decide +kernel
theorem dX5_overVans_59 : decode cX5_overVans 59 = .ok (.aload_n 0, 1) := by decide +kernel
theorem dX5_overVans_60 : decode cX5_overVans 60 = .ok (.getfield 56, 3) := by decide +kernel
theorem dX5_overVans_63 : decode cX5_overVans 63 = .ok (.iload_n 3, 1) := by decide +kernel
theorem dX5_overVans_64 : decode cX5_overVans 64 = .ok (.iaload, 1) := by decide +kernel
theorem dX5_overVans_65 : decode cX5_overVans 65 = .ok (.iadd, 1) := by decide +kernel
theorem dX5_overVans_66 : decode cX5_overVans 66 = .ok (.istore_n 2, 1) := by decide +kernel
theorem dX5_overVans_67 : decode cX5_overVans 67 = .ok (.iinc 3 1, 3) := by decide +kernel
theorem dX5_overVans_70 : decode cX5_overVans 70 = .ok (.goto (-66), 3) := by decide +kernel
theorem dX5_overVans_73 : decode cX5_overVans 73 = .ok (.iload_n 2, 1) := by decide +kernel
theorem dX5_overVans_74 : decode cX5_overVans 74 = .ok (.ireturn, 1) := by decide +kernel
set_option maxRecDepth 20000 in
theorem ggX5_count_X5_plans : GoodIn wsX5_count wsX5_plans := goodIn_r _ [9, 2, 10, 11, 12, 13, 14, 15, 16, 17, 18, 19, 20, 21, 8, 22, 23, 24, 25, 26, 27, 28, 29, 30, 31, 32, 33, 34, 35, 36, 37, 38, 39, 40, 41, 42, 43, 44, 45, 46, 47, 48, 49, 50, 51, 52, 53, 54, 55, 56, 57, 58, 59, 60, 61, 62, 63, 64, 76, 77, 78, 79, 80, 81, 82, 83, 84, 85, 86, 87, 88, 89, 90, 91, 92, 93, 94, 95, 96, 97, 98] (by decide +kernel) (by decide +kernel)
set_option maxRecDepth 20000 in
theorem gX5_count_X5_plans : GoodIn wsX5_count (wsV RX5 146 RX5 yX5_plans wsX5_plans) := goodIn_app (goodIn_of _ (by decide +kernel)) ggX5_count_X5_plans
set_option maxRecDepth 20000 in
theorem ggX5_count_X5_withPromise : GoodIn wsX5_count wsX5_withPromise := goodIn_r _ [68, 2, 18, 69, 70, 8, 71, 76, 77, 78, 79, 80, 81, 82, 83, 84, 85, 86, 87, 88, 89, 90, 91, 92, 93, 94, 95, 96, 97, 98] (by decide +kernel) (by decide +kernel)
set_option maxRecDepth 20000 in
theorem gX5_count_X5_withPromise : GoodIn wsX5_count (wsV RX5 162 RX5 yX5_withPromise wsX5_withPromise) := goodIn_app (goodIn_of _ (by decide +kernel)) ggX5_count_X5_withPromise
set_option maxRecDepth 20000 in
theorem ggX5_count_X5_overVans : GoodIn wsX5_count wsX5_overVans := goodIn_r _ [75, 2, 11, 12, 13, 76, 77, 78, 79, 80, 81, 82, 83, 84, 85, 86, 87, 88, 89, 90, 91, 92, 93, 94, 95, 96, 97, 98] (by decide +kernel) (by decide +kernel)
set_option maxRecDepth 20000 in
theorem gX5_count_X5_overVans : GoodIn wsX5_count (wsV RX5 165 RX5 yX5_overVans wsX5_overVans) := goodIn_app (goodIn_of _ (by decide +kernel)) ggX5_count_X5_overVans
set_option maxRecDepth 20000 in
theorem ggX5_count_X5_in : GoodIn wsX5_count wsX5_in := goodIn_r _ [71] (by decide +kernel) (by decide +kernel)
set_option maxRecDepth 20000 in
theorem gX5_count_X5_in : GoodIn wsX5_count (va_wsS RX5 107 yX5_in wsX5_in) := goodIn_app (goodIn_of _ (by decide +kernel)) ggX5_count_X5_in
theorem dX5_count_0 : decode cX5_count 0 = .ok (.aload_n 0, 1) := by decide +kernel
theorem dX5_count_1 : decode cX5_count 1 = .ok (.iconst 0, 1) := by decide +kernel
theorem dX5_count_2 : decode cX5_count 2 = .ok (.putfield 62, 3) := by decide +kernel
theorem dX5_count_5 : decode cX5_count 5 = .ok (.aload_n 0, 1) := by decide +kernel
theorem dX5_count_6 : decode cX5_count 6 = .ok (.invokevirtual 146, 3) := by decide +kernel
theorem dX5_count_9 : decode cX5_count 9 = .ok (.iload_n 1, 1) := by decide +kernel
theorem dX5_count_10 : decode cX5_count 10 = .ok (.tableswitch 137 0 15 #[78, 85, 92, 92, 103, 110, 110, 110, 121, 121, 121, 137, 137, 137, 127, 132], 78) := by decide +kernel
theorem dX5_count_88 : decode cX5_count 88 = .ok (.aload_n 0, 1) := by decide +kernel
theorem dX5_count_89 : decode cX5_count 89 = .ok (.getfield 7, 3) := by decide +kernel
theorem dX5_count_92 : decode cX5_count 92 = .ok (.iconst 3, 1) := by decide +kernel
theorem dX5_count_93 : decode cX5_count 93 = .ok (.iaload, 1) := by decide +kernel
theorem dX5_count_94 : decode cX5_count 94 = .ok (.ireturn, 1) := by decide +kernel
theorem dX5_count_95 : decode cX5_count 95 = .ok (.aload_n 0, 1) := by decide +kernel
theorem dX5_count_96 : decode cX5_count 96 = .ok (.getfield 7, 3) := by decide +kernel
theorem dX5_count_99 : decode cX5_count 99 = .ok (.iconst 4, 1) := by decide +kernel
theorem dX5_count_100 : decode cX5_count 100 = .ok (.iaload, 1) := by decide +kernel
theorem dX5_count_101 : decode cX5_count 101 = .ok (.ireturn, 1) := by decide +kernel
theorem dX5_count_102 : decode cX5_count 102 = .ok (.aload_n 0, 1) := by decide +kernel
theorem dX5_count_103 : decode cX5_count 103 = .ok (.iload_n 1, 1) := by decide +kernel
theorem dX5_count_104 : decode cX5_count 104 = .ok (.iconst 2, 1) := by decide +kernel
theorem dX5_count_105 : decode cX5_count 105 = .ok (.isub, 1) := by decide +kernel
theorem dX5_count_106 : decode cX5_count 106 = .ok (.iload_n 1, 1) := by decide +kernel
theorem dX5_count_107 : decode cX5_count 107 = .ok (.iconst 2, 1) := by decide +kernel
theorem dX5_count_108 : decode cX5_count 108 = .ok (.isub, 1) := by decide +kernel
theorem dX5_count_109 : decode cX5_count 109 = .ok (.invokevirtual 162, 3) := by decide +kernel
theorem dX5_count_112 : decode cX5_count 112 = .ok (.ireturn, 1) := by decide +kernel
theorem dX5_count_113 : decode cX5_count 113 = .ok (.aload_n 0, 1) := by decide +kernel
theorem dX5_count_114 : decode cX5_count 114 = .ok (.iconst 2, 1) := by decide +kernel
theorem dX5_count_115 : decode cX5_count 115 = .ok (.iconst 4, 1) := by decide +kernel
theorem dX5_count_116 : decode cX5_count 116 = .ok (.invokevirtual 162, 3) := by decide +kernel
theorem dX5_count_119 : decode cX5_count 119 = .ok (.ireturn, 1) := by decide +kernel
theorem dX5_count_120 : decode cX5_count 120 = .ok (.aload_n 0, 1) := by decide +kernel
theorem dX5_count_121 : decode cX5_count 121 = .ok (.iload_n 1, 1) := by decide +kernel
theorem dX5_count_122 : decode cX5_count 122 = .ok (.iconst 3, 1) := by decide +kernel
theorem dX5_count_123 : decode cX5_count 123 = .ok (.isub, 1) := by decide +kernel
theorem dX5_count_124 : decode cX5_count 124 = .ok (.iload_n 1, 1) := by decide +kernel
theorem dX5_count_125 : decode cX5_count 125 = .ok (.iconst 3, 1) := by decide +kernel
theorem dX5_count_126 : decode cX5_count 126 = .ok (.isub, 1) := by decide +kernel
theorem dX5_count_127 : decode cX5_count 127 = .ok (.invokevirtual 162, 3) := by decide +kernel
theorem dX5_count_130 : decode cX5_count 130 = .ok (.ireturn, 1) := by decide +kernel
theorem dX5_count_131 : decode cX5_count 131 = .ok (.aload_n 0, 1) := by decide +kernel
theorem dX5_count_132 : decode cX5_count 132 = .ok (.iload_n 1, 1) := by decide +kernel
theorem dX5_count_133 : decode cX5_count 133 = .ok (.invokevirtual 165, 3) := by decide +kernel
theorem dX5_count_136 : decode cX5_count 136 = .ok (.ireturn, 1) := by decide +kernel
theorem dX5_count_137 : decode cX5_count 137 = .ok (.aload_n 0, 1) := by decide +kernel
theorem dX5_count_138 : decode cX5_count 138 = .ok (.getfield 168, 3) := by decide +kernel
theorem dX5_count_141 : decode cX5_count 141 = .ok (.ireturn, 1) := by decide +kernel
theorem dX5_count_142 : decode cX5_count 142 = .ok (.aload_n 0, 1) := by decide +kernel
theorem dX5_count_143 : decode cX5_count 143 = .ok (.getfield 66, 3) := by decide +kernel
theorem dX5_count_146 : decode cX5_count 146 = .ok (.ireturn, 1) := by decide +kernel
theorem dX5_count_147 : decode cX5_count 147 = .ok (.iload_n 1, 1) := by decide +kernel
theorem dX5_count_148 : decode cX5_count 148 = .ok (.bipush 11, 2) := by decide +kernel
theorem dX5_count_150 : decode cX5_count 150 = .ok (.bipush 13, 2) := by decide +kernel
theorem dX5_count_152 : decode cX5_count 152 = .ok (.invokestatic 107, 3) := by decide +kernel
theorem dX5_count_155 : decode cX5_count 155 = .ok (.ifCond .eq 15, 3) := by decide +kernel
theorem dX5_count_158 : decode cX5_count 158 = .ok (.aload_n 0, 1) := by decide +kernel
theorem dX5_count_159 : decode cX5_count 159 = .ok (.getfield 7, 3) := by decide +kernel
theorem dX5_count_162 : decode cX5_count 162 = .ok (.iload_n 1, 1) := by decide +kernel
theorem dX5_count_163 : decode cX5_count 163 = .ok (.bipush 11, 2) := by decide +kernel
theorem dX5_count_165 : decode cX5_count 165 = .ok (.isub, 1) := by decide +kernel
theorem dX5_count_166 : decode cX5_count 166 = .ok (.iaload, 1) := by decide +kernel
theorem dX5_count_167 : decode cX5_count 167 = .ok (.goto 5, 3) := by decide +kernel
theorem dX5_count_170 : decode cX5_count 170 = .ok (.bipush (-2), 2) := by decide +kernel
theorem dX5_count_172 : decode cX5_count 172 = .ok (.ireturn, 1) := by decide +kernel
set_option maxRecDepth 20000 in
theorem ggX5_wanted_X5_in : GoodIn wsX5_wanted wsX5_in := goodIn_r _ [7] (by decide +kernel) (by decide +kernel)
set_option maxRecDepth 20000 in
theorem gX5_wanted_X5_in : GoodIn wsX5_wanted (va_wsS RX5 107 yX5_in wsX5_in) := goodIn_app (goodIn_of _ (by decide +kernel)) ggX5_wanted_X5_in
set_option maxRecDepth 20000 in
theorem ggX5_wanted_X5_plans : GoodIn wsX5_wanted wsX5_plans := goodIn_r _ [11, 2, 12, 13, 14, 15, 16, 17, 18, 19, 3, 20, 21, 22, 6, 23, 24, 25, 26, 27, 28, 29, 30, 31, 32, 33, 34, 35, 36, 37, 38, 39, 40, 41, 42, 43, 44, 45, 46, 47, 48, 49, 50, 51, 52, 53, 54, 55, 56, 57, 58, 59, 60, 61, 62, 63, 64, 65, 66, 67, 68, 69, 70, 71, 72, 73, 74, 75, 76, 77, 78, 79, 80, 81, 82, 83, 84, 85, 86, 87, 88] (by decide +kernel) (by decide +kernel)
set_option maxRecDepth 20000 in
theorem gX5_wanted_X5_plans : GoodIn wsX5_wanted (wsV RX5 146 RX5 yX5_plans wsX5_plans) := goodIn_app (goodIn_of _ (by decide +kernel)) ggX5_wanted_X5_plans
set_option maxRecDepth 20000 in
theorem ggX5_wanted_X5_visit0 : GoodIn wsX5_wanted wsX5_visit0 := goodIn_r _ [31, 2, 66, 67, 68, 69, 70, 71, 72, 73, 74, 75, 76, 77, 78, 79, 80, 81, 82, 83, 84, 85, 86, 87, 88] (by decide +kernel) (by decide +kernel)
set_option maxRecDepth 20000 in
theorem gX5_wanted_X5_visit0 : GoodIn wsX5_wanted (wsV RX5 73 RX5 yX5_visit0 wsX5_visit0) := goodIn_app (goodIn_of _ (by decide +kernel)) ggX5_wanted_X5_visit0
theorem dX5_wanted_0 : decode cX5_wanted 0 = .ok (.aload_n 0, 1) := by decide +kernel
theorem dX5_wanted_1 : decode cX5_wanted 1 = .ok (.iconst 0, 1) := by decide +kernel
theorem dX5_wanted_2 : decode cX5_wanted 2 = .ok (.putfield 62, 3) := by decide +kernel
theorem dX5_wanted_5 : decode cX5_wanted 5 = .ok (.iload_n 1, 1) := by decide +kernel
theorem dX5_wanted_6 : decode cX5_wanted 6 = .ok (.iconst 0, 1) := by decide +kernel
theorem dX5_wanted_7 : decode cX5_wanted 7 = .ok (.iconst 4, 1) := by decide +kernel
theorem dX5_wanted_8 : decode cX5_wanted 8 = .ok (.invokestatic 107, 3) := by decide +kernel
theorem dX5_wanted_11 : decode cX5_wanted 11 = .ok (.ifCond .ne 5, 3) := by decide +kernel
theorem dX5_wanted_14 : decode cX5_wanted 14 = .ok (.iconst (-1), 1) := by decide +kernel
theorem dX5_wanted_15 : decode cX5_wanted 15 = .ok (.ireturn, 1) := by decide +kernel
theorem dX5_wanted_16 : decode cX5_wanted 16 = .ok (.aload_n 0, 1) := by decide +kernel
theorem dX5_wanted_17 : decode cX5_wanted 17 = .ok (.invokevirtual 146, 3) := by decide +kernel
theorem dX5_wanted_20 : decode cX5_wanted 20 = .ok (.iconst 0, 1) := by decide +kernel
theorem dX5_wanted_21 : decode cX5_wanted 21 = .ok (.istore_n 2, 1) := by decide +kernel
theorem dX5_wanted_22 : decode cX5_wanted 22 = .ok (.iconst 0, 1) := by decide +kernel
theorem dX5_wanted_23 : decode cX5_wanted 23 = .ok (.istore_n 3, 1) := by decide +kernel
theorem dX5_wanted_24 : decode cX5_wanted 24 = .ok (.iload_n 3, 1) := by decide +kernel
theorem dX5_wanted_25 : decode cX5_wanted 25 = .ok (.aload_n 0, 1) := by decide +kernel
theorem dX5_wanted_26 : decode cX5_wanted 26 = .ok (.getfield 7, 3) := by decide +kernel
theorem dX5_wanted_29 : decode cX5_wanted 29 = .ok (.iconst 3, 1) := by decide +kernel
theorem dX5_wanted_30 : decode cX5_wanted 30 = .ok (.iaload, 1) := by decide +kernel
theorem dX5_wanted_31 : decode cX5_wanted 31 = .ok (.if_icmp .ge 42, 3) := by decide +kernel
theorem dX5_wanted_34 : decode cX5_wanted 34 = .ok (.iload_n 2, 1) := by decide +kernel
theorem dX5_wanted_35 : decode cX5_wanted 35 = .ok (.aload_n 0, 1) := by decide +kernel
theorem dX5_wanted_36 : decode cX5_wanted 36 = .ok (.getfield 29, 3) := by decide +kernel
theorem dX5_wanted_39 : decode cX5_wanted 39 = .ok (.iload_n 3, 1) := by decide +kernel
theorem dX5_wanted_40 : decode cX5_wanted 40 = .ok (.iaload, 1) := by decide +kernel
theorem dX5_wanted_41 : decode cX5_wanted 41 = .ok (.iconst 3, 1) := by decide +kernel
theorem dX5_wanted_42 : decode cX5_wanted 42 = .ok (.if_icmp .ne 22, 3) := by decide +kernel
theorem dX5_wanted_45 : decode cX5_wanted 45 = .ok (.aload_n 0, 1) := by decide +kernel
theorem dX5_wanted_46 : decode cX5_wanted 46 = .ok (.iload_n 3, 1) := by decide +kernel
theorem dX5_wanted_47 : decode cX5_wanted 47 = .ok (.iconst 2, 1) := by decide +kernel
theorem dX5_wanted_48 : decode cX5_wanted 48 = .ok (.invokevirtual 73, 3) := by decide +kernel
theorem dX5_wanted_51 : decode cX5_wanted 51 = .ok (.iload_n 1, 1) := by decide +kernel
theorem dX5_wanted_52 : decode cX5_wanted 52 = .ok (.if_icmp .ne 12, 3) := by decide +kernel
theorem dX5_wanted_55 : decode cX5_wanted 55 = .ok (.aload_n 0, 1) := by decide +kernel
theorem dX5_wanted_56 : decode cX5_wanted 56 = .ok (.iload_n 3, 1) := by decide +kernel
theorem dX5_wanted_57 : decode cX5_wanted 57 = .ok (.iconst 3, 1) := by decide +kernel
theorem dX5_wanted_58 : decode cX5_wanted 58 = .ok (.invokevirtual 73, 3) := by decide +kernel
theorem dX5_wanted_61 : decode cX5_wanted 61 = .ok (.goto 4, 3) := by decide +kernel
theorem dX5_wanted_64 : decode cX5_wanted 64 = .ok (.iconst 0, 1) := by decide +kernel
theorem dX5_wanted_65 : decode cX5_wanted 65 = .ok (.iadd, 1) := by decide +kernel
theorem dX5_wanted_66 : decode cX5_wanted 66 = .ok (.istore_n 2, 1) := by decide +kernel
theorem dX5_wanted_67 : decode cX5_wanted 67 = .ok (.iinc 3 1, 3) := by decide +kernel
theorem dX5_wanted_70 : decode cX5_wanted 70 = .ok (.goto (-46), 3) := by decide +kernel
theorem dX5_wanted_73 : decode cX5_wanted 73 = .ok (.iload_n 2, 1) := by decide +kernel
theorem dX5_wanted_74 : decode cX5_wanted 74 = .ok (.ireturn, 1) := by decide +kernel
set_option maxRecDepth 20000 in
theorem ggX5_share_X5_plans : GoodIn wsX5_share wsX5_plans := goodIn_r _ [7, 2, 8, 9, 10, 11, 12, 13, 14, 15, 16, 17, 18, 19, 6, 20, 21, 22, 23, 24, 25, 26, 27, 28, 29, 30, 31, 32, 33, 34, 35, 36, 37, 38, 39, 40, 41, 42, 43, 44, 45, 46, 47, 48, 49, 50, 51, 52, 53, 54, 55, 56, 57, 58, 59, 60, 61, 62, 82, 83, 84, 85, 86, 87, 88, 89, 90, 91, 92, 93, 94, 95, 96, 97, 98, 99, 100, 101, 102, 103, 104] (by decide +kernel) (by decide +kernel)
set_option maxRecDepth 20000 in
theorem gX5_share_X5_plans : GoodIn wsX5_share (wsV RX5 146 RX5 yX5_plans wsX5_plans) := goodIn_app (goodIn_of _ (by decide +kernel)) ggX5_share_X5_plans
set_option maxRecDepth 20000 in
theorem ggX5_share_X5_withPromise : GoodIn wsX5_share wsX5_withPromise := goodIn_r _ [66, 2, 16, 67, 68, 6, 69, 82, 83, 84, 85, 86, 87, 88, 89, 90, 91, 92, 93, 94, 95, 96, 97, 98, 99, 100, 101, 102, 103, 104] (by decide +kernel) (by decide +kernel)
set_option maxRecDepth 20000 in
theorem gX5_share_X5_withPromise : GoodIn wsX5_share (wsV RX5 162 RX5 yX5_withPromise wsX5_withPromise) := goodIn_app (goodIn_of _ (by decide +kernel)) ggX5_share_X5_withPromise
set_option maxRecDepth 20000 in
theorem ggX5_share_Jxf58ca_floatToIntBits_5c35a : GoodIn wsX5_share wsJxf58ca_floatToIntBits_5c35a := goodIn_r _ [73, 74, 75, 76, 77, 78, 79, 80, 72, 81] (by decide +kernel) (by decide +kernel)
set_option maxRecDepth 20000 in
theorem gX5_share_Jxf58ca_floatToIntBits_5c35a : GoodIn wsX5_share (va_wsS RX5 171 yJxf58ca_floatToIntBits_5c35a wsJxf58ca_floatToIntBits_5c35a) := goodIn_app (goodIn_of _ (by decide +kernel)) ggX5_share_Jxf58ca_floatToIntBits_5c35a
theorem dX5_share_0 : decode cX5_share 0 = .ok (.aload_n 0, 1) := by decide +kernel
theorem dX5_share_1 : decode cX5_share 1 = .ok (.iconst 0, 1) := by decide +kernel
theorem dX5_share_2 : decode cX5_share 2 = .ok (.putfield 62, 3) := by decide +kernel
theorem dX5_share_5 : decode cX5_share 5 = .ok (.aload_n 0, 1) := by decide +kernel
theorem dX5_share_6 : decode cX5_share 6 = .ok (.invokevirtual 146, 3) := by decide +kernel
theorem dX5_share_9 : decode cX5_share 9 = .ok (.aload_n 0, 1) := by decide +kernel
theorem dX5_share_10 : decode cX5_share 10 = .ok (.getfield 7, 3) := by decide +kernel
theorem dX5_share_13 : decode cX5_share 13 = .ok (.iconst 3, 1) := by decide +kernel
theorem dX5_share_14 : decode cX5_share 14 = .ok (.iaload, 1) := by decide +kernel
theorem dX5_share_15 : decode cX5_share 15 = .ok (.ifCond .ne 8, 3) := by decide +kernel
theorem dX5_share_18 : decode cX5_share 18 = .ok (.bipush (-6), 2) := by decide +kernel
theorem dX5_share_20 : decode cX5_share 20 = .ok (.goto 21, 3) := by decide +kernel
theorem dX5_share_23 : decode cX5_share 23 = .ok (.aload_n 0, 1) := by decide +kernel
theorem dX5_share_24 : decode cX5_share 24 = .ok (.iconst 0, 1) := by decide +kernel
theorem dX5_share_25 : decode cX5_share 25 = .ok (.iconst 1, 1) := by decide +kernel
theorem dX5_share_26 : decode cX5_share 26 = .ok (.invokevirtual 162, 3) := by decide +kernel
theorem dX5_share_29 : decode cX5_share 29 = .ok (.i2f, 1) := by decide +kernel
theorem dX5_share_30 : decode cX5_share 30 = .ok (.aload_n 0, 1) := by decide +kernel
theorem dX5_share_31 : decode cX5_share 31 = .ok (.getfield 7, 3) := by decide +kernel
theorem dX5_share_34 : decode cX5_share 34 = .ok (.iconst 3, 1) := by decide +kernel
theorem dX5_share_35 : decode cX5_share 35 = .ok (.iaload, 1) := by decide +kernel
theorem dX5_share_36 : decode cX5_share 36 = .ok (.i2f, 1) := by decide +kernel
theorem dX5_share_37 : decode cX5_share 37 = .ok (.fdiv, 1) := by decide +kernel
theorem dX5_share_38 : decode cX5_share 38 = .ok (.invokestatic 171, 3) := by decide +kernel
theorem dX5_share_41 : decode cX5_share 41 = .ok (.ireturn, 1) := by decide +kernel
set_option maxRecDepth 20000 in
theorem ggX5_meanWay_X5_in : GoodIn wsX5_meanWay wsX5_in := goodIn_r _ [6] (by decide +kernel) (by decide +kernel)
set_option maxRecDepth 20000 in
theorem gX5_meanWay_X5_in : GoodIn wsX5_meanWay (va_wsS RX5 107 yX5_in wsX5_in) := goodIn_app (goodIn_of _ (by decide +kernel)) ggX5_meanWay_X5_in
set_option maxRecDepth 20000 in
theorem ggX5_meanWay_X5_plans : GoodIn wsX5_meanWay wsX5_plans := goodIn_r _ [10, 11, 12, 13, 14, 15, 16, 17, 18, 19, 20, 21, 22, 23, 5, 24, 25, 26, 27, 28, 29, 30, 31, 32, 33, 34, 35, 36, 37, 38, 39, 40, 41, 42, 43, 44, 45, 46, 47, 48, 49, 50, 51, 52, 53, 54, 55, 56, 57, 58, 59, 60, 61, 62, 63, 64, 65, 66, 87, 88, 89, 90, 91, 92, 93, 94, 95, 96, 97, 98, 99, 100, 101, 102, 103, 104, 105, 106, 107, 108, 109] (by decide +kernel) (by decide +kernel)
set_option maxRecDepth 20000 in
theorem gX5_meanWay_X5_plans : GoodIn wsX5_meanWay (wsV RX5 146 RX5 yX5_plans wsX5_plans) := goodIn_app (goodIn_of _ (by decide +kernel)) ggX5_meanWay_X5_plans
set_option maxRecDepth 20000 in
theorem ggX5_meanWay_X5_withPromise : GoodIn wsX5_meanWay wsX5_withPromise := goodIn_r _ [70, 11, 20, 3, 4, 5, 6, 87, 88, 89, 90, 91, 92, 93, 94, 95, 96, 97, 98, 99, 100, 101, 102, 103, 104, 105, 106, 107, 108, 109] (by decide +kernel) (by decide +kernel)
set_option maxRecDepth 20000 in
theorem gX5_meanWay_X5_withPromise : GoodIn wsX5_meanWay (wsV RX5 162 RX5 yX5_withPromise wsX5_withPromise) := goodIn_app (goodIn_of _ (by decide +kernel)) ggX5_meanWay_X5_withPromise
set_option maxRecDepth 20000 in
theorem ggX5_meanWay_X5_overVans : GoodIn wsX5_meanWay wsX5_overVans := goodIn_r _ [74, 11, 13, 14, 15, 87, 88, 89, 90, 91, 92, 93, 94, 95, 96, 97, 98, 99, 100, 101, 102, 103, 104, 105, 106, 107, 108, 109] (by decide +kernel) (by decide +kernel)
set_option maxRecDepth 20000 in
theorem gX5_meanWay_X5_overVans : GoodIn wsX5_meanWay (wsV RX5 165 RX5 yX5_overVans wsX5_overVans) := goodIn_app (goodIn_of _ (by decide +kernel)) ggX5_meanWay_X5_overVans
set_option maxRecDepth 20000 in
theorem ggX5_meanWay_Jxe99ae_doubleToLongBits_ccdee : GoodIn wsX5_meanWay wsJxe99ae_doubleToLongBits_ccdee := goodIn_r _ [78, 79, 80, 81, 82, 83, 84, 85, 77, 86] (by decide +kernel) (by decide +kernel)
set_option maxRecDepth 20000 in
theorem gX5_meanWay_Jxe99ae_doubleToLongBits_ccdee : GoodIn wsX5_meanWay (va_wsS RX5 179 yJxe99ae_doubleToLongBits_ccdee wsJxe99ae_doubleToLongBits_ccdee) := goodIn_app (goodIn_of _ (by decide +kernel)) ggX5_meanWay_Jxe99ae_doubleToLongBits_ccdee
theorem dX5_meanWay_0 : decode cX5_meanWay 0 = .ok (.aload_n 0, 1) := by decide +kernel
theorem dX5_meanWay_1 : decode cX5_meanWay 1 = .ok (.iconst 0, 1) := by decide +kernel
theorem dX5_meanWay_2 : decode cX5_meanWay 2 = .ok (.putfield 62, 3) := by decide +kernel
theorem dX5_meanWay_5 : decode cX5_meanWay 5 = .ok (.iload_n 1, 1) := by decide +kernel
theorem dX5_meanWay_6 : decode cX5_meanWay 6 = .ok (.iconst 0, 1) := by decide +kernel
theorem dX5_meanWay_7 : decode cX5_meanWay 7 = .ok (.iconst 1, 1) := by decide +kernel
theorem dX5_meanWay_8 : decode cX5_meanWay 8 = .ok (.invokestatic 107, 3) := by decide +kernel
theorem dX5_meanWay_11 : decode cX5_meanWay 11 = .ok (.ifCond .ne 7, 3) := by decide +kernel
theorem dX5_meanWay_14 : decode cX5_meanWay 14 = .ok (.ldc2_w 177, 3) := by decide +kernel
theorem dX5_meanWay_17 : decode cX5_meanWay 17 = .ok (.lreturn, 1) := by decide +kernel
theorem dX5_meanWay_18 : decode cX5_meanWay 18 = .ok (.aload_n 0, 1) := by decide +kernel
theorem dX5_meanWay_19 : decode cX5_meanWay 19 = .ok (.invokevirtual 146, 3) := by decide +kernel
theorem dX5_meanWay_22 : decode cX5_meanWay 22 = .ok (.aload_n 0, 1) := by decide +kernel
theorem dX5_meanWay_23 : decode cX5_meanWay 23 = .ok (.iconst 0, 1) := by decide +kernel
theorem dX5_meanWay_24 : decode cX5_meanWay 24 = .ok (.iconst 1, 1) := by decide +kernel
theorem dX5_meanWay_25 : decode cX5_meanWay 25 = .ok (.invokevirtual 162, 3) := by decide +kernel
theorem dX5_meanWay_28 : decode cX5_meanWay 28 = .ok (.istore_n 2, 1) := by decide +kernel
theorem dX5_meanWay_29 : decode cX5_meanWay 29 = .ok (.iload_n 2, 1) := by decide +kernel
theorem dX5_meanWay_30 : decode cX5_meanWay 30 = .ok (.ifCond .ne 5, 3) := by decide +kernel
theorem dX5_meanWay_33 : decode cX5_meanWay 33 = .ok (.lconst 0, 1) := by decide +kernel
theorem dX5_meanWay_34 : decode cX5_meanWay 34 = .ok (.lreturn, 1) := by decide +kernel
theorem dX5_meanWay_35 : decode cX5_meanWay 35 = .ok (.aload_n 0, 1) := by decide +kernel
theorem dX5_meanWay_36 : decode cX5_meanWay 36 = .ok (.bipush 8, 2) := by decide +kernel
theorem dX5_meanWay_38 : decode cX5_meanWay 38 = .ok (.invokevirtual 165, 3) := by decide +kernel
theorem dX5_meanWay_41 : decode cX5_meanWay 41 = .ok (.i2d, 1) := by decide +kernel
theorem dX5_meanWay_42 : decode cX5_meanWay 42 = .ok (.iload_n 2, 1) := by decide +kernel
theorem dX5_meanWay_43 : decode cX5_meanWay 43 = .ok (.i2d, 1) := by decide +kernel
theorem dX5_meanWay_44 : decode cX5_meanWay 44 = .ok (.ddiv, 1) := by decide +kernel
theorem dX5_meanWay_45 : decode cX5_meanWay 45 = .ok (.dstore_n 3, 1) := by decide +kernel
theorem dX5_meanWay_46 : decode cX5_meanWay 46 = .ok (.iload_n 1, 1) := by decide +kernel
theorem dX5_meanWay_47 : decode cX5_meanWay 47 = .ok (.ifCond .ne 7, 3) := by decide +kernel
theorem dX5_meanWay_50 : decode cX5_meanWay 50 = .ok (.dload_n 3, 1) := by decide +kernel
theorem dX5_meanWay_51 : decode cX5_meanWay 51 = .ok (.goto 6, 3) := by decide +kernel
theorem dX5_meanWay_54 : decode cX5_meanWay 54 = .ok (.dload_n 3, 1) := by decide +kernel
theorem dX5_meanWay_55 : decode cX5_meanWay 55 = .ok (.dconst 1, 1) := by decide +kernel
theorem dX5_meanWay_56 : decode cX5_meanWay 56 = .ok (.drem, 1) := by decide +kernel
theorem dX5_meanWay_57 : decode cX5_meanWay 57 = .ok (.invokestatic 179, 3) := by decide +kernel
theorem dX5_meanWay_60 : decode cX5_meanWay 60 = .ok (.lreturn, 1) := by decide +kernel
set_option maxRecDepth 20000 in
theorem ggX5_would_X5_refuses : GoodIn wsX5_would wsX5_refuses := goodIn_r _ [6, 7, 8, 5, 9] (by decide +kernel) (by decide +kernel)
set_option maxRecDepth 20000 in
theorem gX5_would_X5_refuses : GoodIn wsX5_would (va_wsS RX5 117 yX5_refuses wsX5_refuses) := goodIn_app (goodIn_of _ (by decide +kernel)) ggX5_would_X5_refuses
set_option maxRecDepth 20000 in
theorem ggX5_would_X5_laysVisit : GoodIn wsX5_would wsX5_laysVisit := goodIn_r _ [13, 14, 77, 78, 79, 80, 81, 82, 83, 84, 85, 86, 87, 88, 89, 90, 91, 92, 93, 94, 95, 96, 97, 98, 99] (by decide +kernel) (by decide +kernel)
set_option maxRecDepth 20000 in
theorem gX5_would_X5_laysVisit : GoodIn wsX5_would (wsV RX5 124 RX5 yX5_laysVisit wsX5_laysVisit) := goodIn_app (goodIn_of _ (by decide +kernel)) ggX5_would_X5_laysVisit
set_option maxRecDepth 20000 in
theorem ggX5_would_X5_plans : GoodIn wsX5_would wsX5_plans := goodIn_r _ [18, 14, 19, 20, 21, 22, 23, 24, 25, 26, 2, 27, 28, 29, 5, 30, 31, 32, 33, 34, 35, 36, 37, 38, 39, 40, 41, 42, 43, 44, 45, 46, 47, 48, 49, 50, 51, 52, 53, 54, 55, 56, 57, 58, 59, 60, 61, 62, 63, 64, 65, 66, 67, 68, 69, 70, 71, 72, 77, 78, 79, 80, 81, 82, 83, 84, 85, 86, 87, 88, 89, 90, 91, 92, 93, 94, 95, 96, 97, 98, 99] (by decide +kernel) (by decide +kernel)
set_option maxRecDepth 20000 in
theorem gX5_would_X5_plans : GoodIn wsX5_would (wsV RX5 146 RX5 yX5_plans wsX5_plans) := goodIn_app (goodIn_of _ (by decide +kernel)) ggX5_would_X5_plans
set_option maxRecDepth 20000 in
theorem ggX5_would_X5_dropsVisit : GoodIn wsX5_would wsX5_dropsVisit := goodIn_r _ [76, 14, 77, 78, 79, 80, 81, 82, 83, 84, 85, 86, 87, 88, 89, 90, 91, 92, 93, 94, 95, 96, 97, 98, 99] (by decide +kernel) (by decide +kernel)
set_option maxRecDepth 20000 in
theorem gX5_would_X5_dropsVisit : GoodIn wsX5_would (wsV RX5 131 RX5 yX5_dropsVisit wsX5_dropsVisit) := goodIn_app (goodIn_of _ (by decide +kernel)) ggX5_would_X5_dropsVisit
theorem dX5_would_0 : decode cX5_would 0 = .ok (.aload_n 0, 1) := by decide +kernel
theorem dX5_would_1 : decode cX5_would 1 = .ok (.iconst 0, 1) := by decide +kernel
theorem dX5_would_2 : decode cX5_would 2 = .ok (.putfield 62, 3) := by decide +kernel
theorem dX5_would_5 : decode cX5_would 5 = .ok (.iload_n 1, 1) := by decide +kernel
theorem dX5_would_6 : decode cX5_would 6 = .ok (.iload_n 2, 1) := by decide +kernel
theorem dX5_would_7 : decode cX5_would 7 = .ok (.iload_n 3, 1) := by decide +kernel
theorem dX5_would_8 : decode cX5_would 8 = .ok (.iload 4, 2) := by decide +kernel
theorem dX5_would_10 : decode cX5_would 10 = .ok (.iload 5, 2) := by decide +kernel
theorem dX5_would_12 : decode cX5_would 12 = .ok (.iload 6, 2) := by decide +kernel
theorem dX5_would_14 : decode cX5_would 14 = .ok (.invokestatic 117, 3) := by decide +kernel
theorem dX5_would_17 : decode cX5_would 17 = .ok (.istore 7, 2) := by decide +kernel
theorem dX5_would_19 : decode cX5_would 19 = .ok (.iload 7, 2) := by decide +kernel
theorem dX5_would_21 : decode cX5_would 21 = .ok (.ifCond .eq 6, 3) := by decide +kernel
theorem dX5_would_24 : decode cX5_would 24 = .ok (.iload 7, 2) := by decide +kernel
theorem dX5_would_26 : decode cX5_would 26 = .ok (.ireturn, 1) := by decide +kernel
theorem dX5_would_27 : decode cX5_would 27 = .ok (.aload_n 0, 1) := by decide +kernel
theorem dX5_would_28 : decode cX5_would 28 = .ok (.iload_n 1, 1) := by decide +kernel
theorem dX5_would_29 : decode cX5_would 29 = .ok (.iload_n 2, 1) := by decide +kernel
theorem dX5_would_30 : decode cX5_would 30 = .ok (.iload_n 3, 1) := by decide +kernel
theorem dX5_would_31 : decode cX5_would 31 = .ok (.iload 4, 2) := by decide +kernel
theorem dX5_would_33 : decode cX5_would 33 = .ok (.iload 5, 2) := by decide +kernel
theorem dX5_would_35 : decode cX5_would 35 = .ok (.iload 6, 2) := by decide +kernel
theorem dX5_would_37 : decode cX5_would 37 = .ok (.invokevirtual 124, 3) := by decide +kernel
theorem dX5_would_40 : decode cX5_would 40 = .ok (.istore 8, 2) := by decide +kernel
theorem dX5_would_42 : decode cX5_would 42 = .ok (.aload_n 0, 1) := by decide +kernel
theorem dX5_would_43 : decode cX5_would 43 = .ok (.invokevirtual 146, 3) := by decide +kernel
theorem dX5_would_46 : decode cX5_would 46 = .ok (.aload_n 0, 1) := by decide +kernel
theorem dX5_would_47 : decode cX5_would 47 = .ok (.getfield 29, 3) := by decide +kernel
theorem dX5_would_50 : decode cX5_would 50 = .ok (.iload 8, 2) := by decide +kernel
theorem dX5_would_52 : decode cX5_would 52 = .ok (.iaload, 1) := by decide +kernel
theorem dX5_would_53 : decode cX5_would 53 = .ok (.istore 9, 2) := by decide +kernel
theorem dX5_would_55 : decode cX5_would 55 = .ok (.aload_n 0, 1) := by decide +kernel
theorem dX5_would_56 : decode cX5_would 56 = .ok (.iload 8, 2) := by decide +kernel
theorem dX5_would_58 : decode cX5_would 58 = .ok (.invokevirtual 131, 3) := by decide +kernel
theorem dX5_would_61 : decode cX5_would 61 = .ok (.pop, 1) := by decide +kernel
theorem dX5_would_62 : decode cX5_would 62 = .ok (.iload 9, 2) := by decide +kernel
theorem dX5_would_64 : decode cX5_would 64 = .ok (.ireturn, 1) := by decide +kernel
set_option maxRecDepth 20000 in
theorem ggX5_withVan_X5_refusesVan : GoodIn wsX5_withVan wsX5_refusesVan := goodIn_r _ [7, 2, 8, 9, 6, 10, 78, 79, 80, 81, 82, 83, 84, 85, 86, 87, 88, 89, 90, 91, 92, 93, 94, 95, 96, 97, 98, 99, 100] (by decide +kernel) (by decide +kernel)
set_option maxRecDepth 20000 in
theorem gX5_withVan_X5_refusesVan : GoodIn wsX5_withVan (wsV RX5 134 RX5 yX5_refusesVan wsX5_refusesVan) := goodIn_app (goodIn_of _ (by decide +kernel)) ggX5_withVan_X5_refusesVan
set_option maxRecDepth 20000 in
theorem ggX5_withVan_X5_laysVan : GoodIn wsX5_withVan wsX5_laysVan := goodIn_r _ [14, 2, 78, 79, 80, 81, 82, 83, 84, 85, 86, 87, 88, 89, 90, 91, 92, 93, 94, 95, 96, 97, 98, 99, 100] (by decide +kernel) (by decide +kernel)
set_option maxRecDepth 20000 in
theorem gX5_withVan_X5_laysVan : GoodIn wsX5_withVan (wsV RX5 137 RX5 yX5_laysVan wsX5_laysVan) := goodIn_app (goodIn_of _ (by decide +kernel)) ggX5_withVan_X5_laysVan
set_option maxRecDepth 20000 in
theorem ggX5_withVan_X5_plans : GoodIn wsX5_withVan wsX5_plans := goodIn_r _ [18, 2, 19, 20, 21, 22, 23, 24, 25, 26, 27, 28, 29, 30, 6, 31, 32, 33, 34, 35, 36, 37, 38, 39, 40, 41, 42, 43, 44, 45, 46, 47, 48, 49, 50, 51, 52, 53, 54, 55, 56, 57, 58, 59, 60, 61, 62, 63, 64, 65, 66, 67, 68, 69, 70, 71, 72, 73, 78, 79, 80, 81, 82, 83, 84, 85, 86, 87, 88, 89, 90, 91, 92, 93, 94, 95, 96, 97, 98, 99, 100] (by decide +kernel) (by decide +kernel)
set_option maxRecDepth 20000 in
theorem gX5_withVan_X5_plans : GoodIn wsX5_withVan (wsV RX5 146 RX5 yX5_plans wsX5_plans) := goodIn_app (goodIn_of _ (by decide +kernel)) ggX5_withVan_X5_plans
set_option maxRecDepth 20000 in
theorem ggX5_withVan_X5_withPromise : GoodIn wsX5_withVan wsX5_withPromise := goodIn_r _ [77, 2, 27, 8, 9, 6, 10, 78, 79, 80, 81, 82, 83, 84, 85, 86, 87, 88, 89, 90, 91, 92, 93, 94, 95, 96, 97, 98, 99, 100] (by decide +kernel) (by decide +kernel)
set_option maxRecDepth 20000 in
theorem gX5_withVan_X5_withPromise : GoodIn wsX5_withVan (wsV RX5 162 RX5 yX5_withPromise wsX5_withPromise) := goodIn_app (goodIn_of _ (by decide +kernel)) ggX5_withVan_X5_withPromise
theorem dX5_withVan_0 : decode cX5_withVan 0 = .ok (.aload_n 0, 1) := by decide +kernel
theorem dX5_withVan_1 : decode cX5_withVan 1 = .ok (.iconst 0, 1) := by decide +kernel
theorem dX5_withVan_2 : decode cX5_withVan 2 = .ok (.putfield 62, 3) := by decide +kernel
theorem dX5_withVan_5 : decode cX5_withVan 5 = .ok (.aload_n 0, 1) := by decide +kernel
theorem dX5_withVan_6 : decode cX5_withVan 6 = .ok (.iload_n 1, 1) := by decide +kernel
theorem dX5_withVan_7 : decode cX5_withVan 7 = .ok (.iload_n 2, 1) := by decide +kernel
theorem dX5_withVan_8 : decode cX5_withVan 8 = .ok (.invokevirtual 134, 3) := by decide +kernel
theorem dX5_withVan_11 : decode cX5_withVan 11 = .ok (.istore_n 3, 1) := by decide +kernel
theorem dX5_withVan_12 : decode cX5_withVan 12 = .ok (.iload_n 3, 1) := by decide +kernel
theorem dX5_withVan_13 : decode cX5_withVan 13 = .ok (.ifCond .eq 5, 3) := by decide +kernel
theorem dX5_withVan_16 : decode cX5_withVan 16 = .ok (.iload_n 3, 1) := by decide +kernel
theorem dX5_withVan_17 : decode cX5_withVan 17 = .ok (.ireturn, 1) := by decide +kernel
theorem dX5_withVan_18 : decode cX5_withVan 18 = .ok (.aload_n 0, 1) := by decide +kernel
theorem dX5_withVan_19 : decode cX5_withVan 19 = .ok (.iload_n 1, 1) := by decide +kernel
theorem dX5_withVan_20 : decode cX5_withVan 20 = .ok (.iload_n 2, 1) := by decide +kernel
theorem dX5_withVan_21 : decode cX5_withVan 21 = .ok (.bipush 99, 2) := by decide +kernel
theorem dX5_withVan_23 : decode cX5_withVan 23 = .ok (.invokevirtual 137, 3) := by decide +kernel
theorem dX5_withVan_26 : decode cX5_withVan 26 = .ok (.pop, 1) := by decide +kernel
theorem dX5_withVan_27 : decode cX5_withVan 27 = .ok (.aload_n 0, 1) := by decide +kernel
theorem dX5_withVan_28 : decode cX5_withVan 28 = .ok (.invokevirtual 146, 3) := by decide +kernel
theorem dX5_withVan_31 : decode cX5_withVan 31 = .ok (.aload_n 0, 1) := by decide +kernel
theorem dX5_withVan_32 : decode cX5_withVan 32 = .ok (.getfield 7, 3) := by decide +kernel
theorem dX5_withVan_35 : decode cX5_withVan 35 = .ok (.iconst 4, 1) := by decide +kernel
theorem dX5_withVan_36 : decode cX5_withVan 36 = .ok (.dup2, 1) := by decide +kernel
theorem dX5_withVan_37 : decode cX5_withVan 37 = .ok (.iaload, 1) := by decide +kernel
theorem dX5_withVan_38 : decode cX5_withVan 38 = .ok (.iconst 1, 1) := by decide +kernel
theorem dX5_withVan_39 : decode cX5_withVan 39 = .ok (.isub, 1) := by decide +kernel
theorem dX5_withVan_40 : decode cX5_withVan 40 = .ok (.iastore, 1) := by decide +kernel
theorem dX5_withVan_41 : decode cX5_withVan 41 = .ok (.iconst 0, 1) := by decide +kernel
theorem dX5_withVan_42 : decode cX5_withVan 42 = .ok (.istore 4, 2) := by decide +kernel
theorem dX5_withVan_44 : decode cX5_withVan 44 = .ok (.iload 4, 2) := by decide +kernel
theorem dX5_withVan_46 : decode cX5_withVan 46 = .ok (.bipush 7, 2) := by decide +kernel
theorem dX5_withVan_48 : decode cX5_withVan 48 = .ok (.if_icmp .ge 29, 3) := by decide +kernel
theorem dX5_withVan_51 : decode cX5_withVan 51 = .ok (.aload_n 0, 1) := by decide +kernel
theorem dX5_withVan_52 : decode cX5_withVan 52 = .ok (.getfield 7, 3) := by decide +kernel
theorem dX5_withVan_55 : decode cX5_withVan 55 = .ok (.iconst 5, 1) := by decide +kernel
theorem dX5_withVan_56 : decode cX5_withVan 56 = .ok (.bipush 7, 2) := by decide +kernel
theorem dX5_withVan_58 : decode cX5_withVan 58 = .ok (.aload_n 0, 1) := by decide +kernel
theorem dX5_withVan_59 : decode cX5_withVan 59 = .ok (.getfield 7, 3) := by decide +kernel
theorem dX5_withVan_62 : decode cX5_withVan 62 = .ok (.iconst 4, 1) := by decide +kernel
theorem dX5_withVan_63 : decode cX5_withVan 63 = .ok (.iaload, 1) := by decide +kernel
theorem dX5_withVan_64 : decode cX5_withVan 64 = .ok (.imul, 1) := by decide +kernel
theorem dX5_withVan_65 : decode cX5_withVan 65 = .ok (.iadd, 1) := by decide +kernel
theorem dX5_withVan_66 : decode cX5_withVan 66 = .ok (.iload 4, 2) := by decide +kernel
theorem dX5_withVan_68 : decode cX5_withVan 68 = .ok (.iadd, 1) := by decide +kernel
theorem dX5_withVan_69 : decode cX5_withVan 69 = .ok (.iconst 0, 1) := by decide +kernel
theorem dX5_withVan_70 : decode cX5_withVan 70 = .ok (.iastore, 1) := by decide +kernel
theorem dX5_withVan_71 : decode cX5_withVan 71 = .ok (.iinc 4 1, 3) := by decide +kernel
theorem dX5_withVan_74 : decode cX5_withVan 74 = .ok (.goto (-30), 3) := by decide +kernel
theorem dX5_withVan_77 : decode cX5_withVan 77 = .ok (.aload_n 0, 1) := by decide +kernel
theorem dX5_withVan_78 : decode cX5_withVan 78 = .ok (.iconst 0, 1) := by decide +kernel
theorem dX5_withVan_79 : decode cX5_withVan 79 = .ok (.iconst 1, 1) := by decide +kernel
theorem dX5_withVan_80 : decode cX5_withVan 80 = .ok (.invokevirtual 162, 3) := by decide +kernel
theorem dX5_withVan_83 : decode cX5_withVan 83 = .ok (.ireturn, 1) := by decide +kernel
set_option maxRecDepth 20000 in
theorem ggX5_brokenAt_X5_plans : GoodIn wsX5_brokenAt wsX5_plans := goodIn_r _ [6, 1, 7, 8, 9, 10, 11, 12, 13, 14, 15, 16, 17, 18, 5, 19, 20, 21, 22, 23, 24, 25, 26, 27, 28, 29, 30, 31, 32, 33, 34, 35, 36, 37, 38, 39, 40, 41, 42, 43, 44, 45, 46, 47, 48, 49, 50, 51, 52, 53, 54, 55, 56, 57, 58, 59, 60, 61, 69, 70, 71, 72, 73, 74, 75, 76, 77, 78, 79, 80, 81, 82, 83, 84, 85, 86, 87, 88, 89, 90, 91] (by decide +kernel) (by decide +kernel)
set_option maxRecDepth 20000 in
theorem gX5_brokenAt_X5_plans : GoodIn wsX5_brokenAt (wsV RX5 146 RX5 yX5_plans wsX5_plans) := goodIn_app (goodIn_of _ (by decide +kernel)) ggX5_brokenAt_X5_plans
set_option maxRecDepth 20000 in
theorem ggX5_brokenAt_X5_withPromise : GoodIn wsX5_brokenAt wsX5_withPromise := goodIn_r _ [65, 1, 15, 66, 67, 5, 68, 69, 70, 71, 72, 73, 74, 75, 76, 77, 78, 79, 80, 81, 82, 83, 84, 85, 86, 87, 88, 89, 90, 91] (by decide +kernel) (by decide +kernel)
set_option maxRecDepth 20000 in
theorem gX5_brokenAt_X5_withPromise : GoodIn wsX5_brokenAt (wsV RX5 162 RX5 yX5_withPromise wsX5_withPromise) := goodIn_app (goodIn_of _ (by decide +kernel)) ggX5_brokenAt_X5_withPromise
theorem dX5_brokenAt_0 : decode cX5_brokenAt 0 = .ok (.aload_n 0, 1) := by decide +kernel
theorem dX5_brokenAt_1 : decode cX5_brokenAt 1 = .ok (.getfield 7, 3) := by decide +kernel
theorem dX5_brokenAt_4 : decode cX5_brokenAt 4 = .ok (.iconst 0, 1) := by decide +kernel
theorem dX5_brokenAt_5 : decode cX5_brokenAt 5 = .ok (.iaload, 1) := by decide +kernel
theorem dX5_brokenAt_6 : decode cX5_brokenAt 6 = .ok (.istore_n 2, 1) := by decide +kernel
theorem dX5_brokenAt_7 : decode cX5_brokenAt 7 = .ok (.aload_n 0, 1) := by decide +kernel
theorem dX5_brokenAt_8 : decode cX5_brokenAt 8 = .ok (.getfield 7, 3) := by decide +kernel
theorem dX5_brokenAt_11 : decode cX5_brokenAt 11 = .ok (.iconst 0, 1) := by decide +kernel
theorem dX5_brokenAt_12 : decode cX5_brokenAt 12 = .ok (.iload_n 1, 1) := by decide +kernel
theorem dX5_brokenAt_13 : decode cX5_brokenAt 13 = .ok (.iastore, 1) := by decide +kernel
theorem dX5_brokenAt_14 : decode cX5_brokenAt 14 = .ok (.aload_n 0, 1) := by decide +kernel
theorem dX5_brokenAt_15 : decode cX5_brokenAt 15 = .ok (.invokevirtual 146, 3) := by decide +kernel
theorem dX5_brokenAt_18 : decode cX5_brokenAt 18 = .ok (.aload_n 0, 1) := by decide +kernel
theorem dX5_brokenAt_19 : decode cX5_brokenAt 19 = .ok (.getfield 7, 3) := by decide +kernel
theorem dX5_brokenAt_22 : decode cX5_brokenAt 22 = .ok (.iconst 0, 1) := by decide +kernel
theorem dX5_brokenAt_23 : decode cX5_brokenAt 23 = .ok (.iload_n 2, 1) := by decide +kernel
theorem dX5_brokenAt_24 : decode cX5_brokenAt 24 = .ok (.iastore, 1) := by decide +kernel
theorem dX5_brokenAt_25 : decode cX5_brokenAt 25 = .ok (.aload_n 0, 1) := by decide +kernel
theorem dX5_brokenAt_26 : decode cX5_brokenAt 26 = .ok (.iconst 2, 1) := by decide +kernel
theorem dX5_brokenAt_27 : decode cX5_brokenAt 27 = .ok (.iconst 4, 1) := by decide +kernel
theorem dX5_brokenAt_28 : decode cX5_brokenAt 28 = .ok (.invokevirtual 162, 3) := by decide +kernel
theorem dX5_brokenAt_31 : decode cX5_brokenAt 31 = .ok (.ireturn, 1) := by decide +kernel
set_option maxRecDepth 20000 in
theorem ggX5_slowest_X5_brokenAt : GoodIn wsX5_slowest wsX5_brokenAt := goodIn_r _ [6, 7, 8, 9, 10, 5, 11, 12, 13, 14, 15, 16, 17, 18, 19, 20, 21, 22, 23, 24, 25, 26, 27, 28, 29, 30, 31, 32, 33, 34, 35, 36, 37, 38, 39, 40, 41, 42, 43, 44, 45, 46, 47, 48, 49, 50, 51, 52, 53, 54, 55, 56, 57, 58, 59, 60, 61, 62, 63, 64, 65, 66, 67, 68, 69, 70, 71, 72, 73, 74, 75, 76, 77, 78, 79, 80, 81, 82, 83, 84, 85, 86, 87, 88, 89, 90, 91, 92, 93, 94, 95, 96] (by decide +kernel) (by decide +kernel)
set_option maxRecDepth 20000 in
theorem gX5_slowest_X5_brokenAt : GoodIn wsX5_slowest (wsV RX5 185 RX5 yX5_brokenAt wsX5_brokenAt) := goodIn_app (goodIn_of _ (by decide +kernel)) ggX5_slowest_X5_brokenAt
theorem dX5_slowest_0 : decode cX5_slowest 0 = .ok (.aload_n 0, 1) := by decide +kernel
theorem dX5_slowest_1 : decode cX5_slowest 1 = .ok (.iconst 0, 1) := by decide +kernel
theorem dX5_slowest_2 : decode cX5_slowest 2 = .ok (.putfield 62, 3) := by decide +kernel
theorem dX5_slowest_5 : decode cX5_slowest 5 = .ok (.aload_n 0, 1) := by decide +kernel
theorem dX5_slowest_6 : decode cX5_slowest 6 = .ok (.iconst 1, 1) := by decide +kernel
theorem dX5_slowest_7 : decode cX5_slowest 7 = .ok (.invokevirtual 185, 3) := by decide +kernel
theorem dX5_slowest_10 : decode cX5_slowest 10 = .ok (.istore_n 1, 1) := by decide +kernel
theorem dX5_slowest_11 : decode cX5_slowest 11 = .ok (.bipush 9, 2) := by decide +kernel
theorem dX5_slowest_13 : decode cX5_slowest 13 = .ok (.istore_n 2, 1) := by decide +kernel
theorem dX5_slowest_14 : decode cX5_slowest 14 = .ok (.aload_n 0, 1) := by decide +kernel
theorem dX5_slowest_15 : decode cX5_slowest 15 = .ok (.iload_n 2, 1) := by decide +kernel
theorem dX5_slowest_16 : decode cX5_slowest 16 = .ok (.invokevirtual 185, 3) := by decide +kernel
theorem dX5_slowest_19 : decode cX5_slowest 19 = .ok (.iload_n 1, 1) := by decide +kernel
theorem dX5_slowest_20 : decode cX5_slowest 20 = .ok (.if_icmp .le 9, 3) := by decide +kernel
theorem dX5_slowest_23 : decode cX5_slowest 23 = .ok (.iinc 2 (-1), 3) := by decide +kernel
theorem dX5_slowest_26 : decode cX5_slowest 26 = .ok (.goto (-12), 3) := by decide +kernel
theorem dX5_slowest_29 : decode cX5_slowest 29 = .ok (.iload_n 2, 1) := by decide +kernel
theorem dX5_slowest_30 : decode cX5_slowest 30 = .ok (.ireturn, 1) := by decide +kernel
set_option maxRecDepth 20000 in
theorem ggX5_put_X5_in : GoodIn wsX5_put wsX5_in := goodIn_r _ [8] (by decide +kernel) (by decide +kernel)
set_option maxRecDepth 20000 in
theorem gX5_put_X5_in : GoodIn wsX5_put (va_wsS RX5 107 yX5_in wsX5_in) := goodIn_app (goodIn_of _ (by decide +kernel)) ggX5_put_X5_in
theorem dX5_put_0 : decode cX5_put 0 = .ok (.aload_n 0, 1) := by decide +kernel
theorem dX5_put_1 : decode cX5_put 1 = .ok (.iconst 0, 1) := by decide +kernel
theorem dX5_put_2 : decode cX5_put 2 = .ok (.putfield 62, 3) := by decide +kernel
theorem dX5_put_5 : decode cX5_put 5 = .ok (.iconst 0, 1) := by decide +kernel
theorem dX5_put_6 : decode cX5_put 6 = .ok (.istore_n 3, 1) := by decide +kernel
theorem dX5_put_7 : decode cX5_put 7 = .ok (.lload_n 1, 1) := by decide +kernel
theorem dX5_put_8 : decode cX5_put 8 = .ok (.lstore 4, 2) := by decide +kernel
theorem dX5_put_10 : decode cX5_put 10 = .ok (.iconst 1, 1) := by decide +kernel
theorem dX5_put_11 : decode cX5_put 11 = .ok (.istore 6, 2) := by decide +kernel
theorem dX5_put_13 : decode cX5_put 13 = .ok (.iload_n 3, 1) := by decide +kernel
theorem dX5_put_14 : decode cX5_put 14 = .ok (.bipush 8, 2) := by decide +kernel
theorem dX5_put_16 : decode cX5_put 16 = .ok (.if_icmp .ge 56, 3) := by decide +kernel
theorem dX5_put_19 : decode cX5_put 19 = .ok (.lload 4, 2) := by decide +kernel
theorem dX5_put_21 : decode cX5_put 21 = .ok (.ldc2_w 188, 3) := by decide +kernel
theorem dX5_put_24 : decode cX5_put 24 = .ok (.land, 1) := by decide +kernel
theorem dX5_put_25 : decode cX5_put 25 = .ok (.lconst 0, 1) := by decide +kernel
theorem dX5_put_26 : decode cX5_put 26 = .ok (.lcmp, 1) := by decide +kernel
theorem dX5_put_27 : decode cX5_put 27 = .ok (.ifCond .eq 45, 3) := by decide +kernel
theorem dX5_put_30 : decode cX5_put 30 = .ok (.iload 6, 2) := by decide +kernel
theorem dX5_put_32 : decode cX5_put 32 = .ok (.ifCond .eq 24, 3) := by decide +kernel
theorem dX5_put_35 : decode cX5_put 35 = .ok (.lload 4, 2) := by decide +kernel
theorem dX5_put_37 : decode cX5_put 37 = .ok (.ldc2_w 188, 3) := by decide +kernel
theorem dX5_put_40 : decode cX5_put 40 = .ok (.land, 1) := by decide +kernel
theorem dX5_put_41 : decode cX5_put 41 = .ok (.l2i, 1) := by decide +kernel
theorem dX5_put_42 : decode cX5_put 42 = .ok (.bipush 33, 2) := by decide +kernel
theorem dX5_put_44 : decode cX5_put 44 = .ok (.bipush 126, 2) := by decide +kernel
theorem dX5_put_46 : decode cX5_put 46 = .ok (.invokestatic 107, 3) := by decide +kernel
theorem dX5_put_49 : decode cX5_put 49 = .ok (.ifCond .eq 7, 3) := by decide +kernel
theorem dX5_put_52 : decode cX5_put 52 = .ok (.iconst 1, 1) := by decide +kernel
theorem dX5_put_53 : decode cX5_put 53 = .ok (.goto 4, 3) := by decide +kernel
theorem dX5_put_56 : decode cX5_put 56 = .ok (.iconst 0, 1) := by decide +kernel
theorem dX5_put_57 : decode cX5_put 57 = .ok (.istore 6, 2) := by decide +kernel
theorem dX5_put_59 : decode cX5_put 59 = .ok (.lload 4, 2) := by decide +kernel
theorem dX5_put_61 : decode cX5_put 61 = .ok (.bipush 8, 2) := by decide +kernel
theorem dX5_put_63 : decode cX5_put 63 = .ok (.lushr, 1) := by decide +kernel
theorem dX5_put_64 : decode cX5_put 64 = .ok (.lstore 4, 2) := by decide +kernel
theorem dX5_put_66 : decode cX5_put 66 = .ok (.iinc 3 1, 3) := by decide +kernel
theorem dX5_put_69 : decode cX5_put 69 = .ok (.goto (-56), 3) := by decide +kernel
theorem dX5_put_72 : decode cX5_put 72 = .ok (.iload_n 3, 1) := by decide +kernel
theorem dX5_put_73 : decode cX5_put 73 = .ok (.ifCond .eq 15, 3) := by decide +kernel
theorem dX5_put_76 : decode cX5_put 76 = .ok (.iload 6, 2) := by decide +kernel
theorem dX5_put_78 : decode cX5_put 78 = .ok (.ifCond .eq 10, 3) := by decide +kernel
theorem dX5_put_81 : decode cX5_put 81 = .ok (.lload 4, 2) := by decide +kernel
theorem dX5_put_83 : decode cX5_put 83 = .ok (.lconst 0, 1) := by decide +kernel
theorem dX5_put_84 : decode cX5_put 84 = .ok (.lcmp, 1) := by decide +kernel
theorem dX5_put_85 : decode cX5_put 85 = .ok (.ifCond .eq 6, 3) := by decide +kernel
theorem dX5_put_88 : decode cX5_put 88 = .ok (.bipush (-2), 2) := by decide +kernel
theorem dX5_put_90 : decode cX5_put 90 = .ok (.ireturn, 1) := by decide +kernel
theorem dX5_put_91 : decode cX5_put 91 = .ok (.aload_n 0, 1) := by decide +kernel
theorem dX5_put_92 : decode cX5_put 92 = .ok (.getfield 168, 3) := by decide +kernel
theorem dX5_put_95 : decode cX5_put 95 = .ok (.iload_n 3, 1) := by decide +kernel
theorem dX5_put_96 : decode cX5_put 96 = .ok (.iadd, 1) := by decide +kernel
theorem dX5_put_97 : decode cX5_put 97 = .ok (.bipush 80, 2) := by decide +kernel
theorem dX5_put_99 : decode cX5_put 99 = .ok (.if_icmp .le 6, 3) := by decide +kernel
theorem dX5_put_102 : decode cX5_put 102 = .ok (.bipush (-4), 2) := by decide +kernel
theorem dX5_put_104 : decode cX5_put 104 = .ok (.ireturn, 1) := by decide +kernel
theorem dX5_put_105 : decode cX5_put 105 = .ok (.iconst 0, 1) := by decide +kernel
theorem dX5_put_106 : decode cX5_put 106 = .ok (.istore 7, 2) := by decide +kernel
theorem dX5_put_108 : decode cX5_put 108 = .ok (.iload 7, 2) := by decide +kernel
theorem dX5_put_110 : decode cX5_put 110 = .ok (.iload_n 3, 1) := by decide +kernel
theorem dX5_put_111 : decode cX5_put 111 = .ok (.if_icmp .ge 37, 3) := by decide +kernel
theorem dX5_put_114 : decode cX5_put 114 = .ok (.aload_n 0, 1) := by decide +kernel
theorem dX5_put_115 : decode cX5_put 115 = .ok (.getfield 23, 3) := by decide +kernel
theorem dX5_put_118 : decode cX5_put 118 = .ok (.aload_n 0, 1) := by decide +kernel
theorem dX5_put_119 : decode cX5_put 119 = .ok (.getfield 168, 3) := by decide +kernel
theorem dX5_put_122 : decode cX5_put 122 = .ok (.iload 7, 2) := by decide +kernel
theorem dX5_put_124 : decode cX5_put 124 = .ok (.iadd, 1) := by decide +kernel
theorem dX5_put_125 : decode cX5_put 125 = .ok (.lload_n 1, 1) := by decide +kernel
theorem dX5_put_126 : decode cX5_put 126 = .ok (.bipush 8, 2) := by decide +kernel
theorem dX5_put_128 : decode cX5_put 128 = .ok (.iload_n 3, 1) := by decide +kernel
theorem dX5_put_129 : decode cX5_put 129 = .ok (.iconst 1, 1) := by decide +kernel
theorem dX5_put_130 : decode cX5_put 130 = .ok (.isub, 1) := by decide +kernel
theorem dX5_put_131 : decode cX5_put 131 = .ok (.iload 7, 2) := by decide +kernel
theorem dX5_put_133 : decode cX5_put 133 = .ok (.isub, 1) := by decide +kernel
theorem dX5_put_134 : decode cX5_put 134 = .ok (.imul, 1) := by decide +kernel
theorem dX5_put_135 : decode cX5_put 135 = .ok (.lushr, 1) := by decide +kernel
theorem dX5_put_136 : decode cX5_put 136 = .ok (.ldc2_w 188, 3) := by decide +kernel
theorem dX5_put_139 : decode cX5_put 139 = .ok (.land, 1) := by decide +kernel
theorem dX5_put_140 : decode cX5_put 140 = .ok (.l2i, 1) := by decide +kernel
theorem dX5_put_141 : decode cX5_put 141 = .ok (.iastore, 1) := by decide +kernel
theorem dX5_put_142 : decode cX5_put 142 = .ok (.iinc 7 1, 3) := by decide +kernel
theorem dX5_put_145 : decode cX5_put 145 = .ok (.goto (-37), 3) := by decide +kernel
theorem dX5_put_148 : decode cX5_put 148 = .ok (.aload_n 0, 1) := by decide +kernel
theorem dX5_put_149 : decode cX5_put 149 = .ok (.dup, 1) := by decide +kernel
theorem dX5_put_150 : decode cX5_put 150 = .ok (.getfield 168, 3) := by decide +kernel
theorem dX5_put_153 : decode cX5_put 153 = .ok (.iload_n 3, 1) := by decide +kernel
theorem dX5_put_154 : decode cX5_put 154 = .ok (.iadd, 1) := by decide +kernel
theorem dX5_put_155 : decode cX5_put 155 = .ok (.putfield 168, 3) := by decide +kernel
theorem dX5_put_158 : decode cX5_put 158 = .ok (.aload_n 0, 1) := by decide +kernel
theorem dX5_put_159 : decode cX5_put 159 = .ok (.getfield 168, 3) := by decide +kernel
theorem dX5_put_162 : decode cX5_put 162 = .ok (.ireturn, 1) := by decide +kernel
theorem dX5_wipe_0 : decode cX5_wipe 0 = .ok (.aload_n 0, 1) := by decide +kernel
theorem dX5_wipe_1 : decode cX5_wipe 1 = .ok (.iconst 0, 1) := by decide +kernel
theorem dX5_wipe_2 : decode cX5_wipe 2 = .ok (.putfield 62, 3) := by decide +kernel
theorem dX5_wipe_5 : decode cX5_wipe 5 = .ok (.aload_n 0, 1) := by decide +kernel
theorem dX5_wipe_6 : decode cX5_wipe 6 = .ok (.getfield 168, 3) := by decide +kernel
theorem dX5_wipe_9 : decode cX5_wipe 9 = .ok (.istore_n 1, 1) := by decide +kernel
theorem dX5_wipe_10 : decode cX5_wipe 10 = .ok (.aload_n 0, 1) := by decide +kernel
theorem dX5_wipe_11 : decode cX5_wipe 11 = .ok (.iconst 0, 1) := by decide +kernel
theorem dX5_wipe_12 : decode cX5_wipe 12 = .ok (.putfield 168, 3) := by decide +kernel
theorem dX5_wipe_15 : decode cX5_wipe 15 = .ok (.iload_n 1, 1) := by decide +kernel
theorem dX5_wipe_16 : decode cX5_wipe 16 = .ok (.ireturn, 1) := by decide +kernel
theorem dX5_sign_0 : decode cX5_sign 0 = .ok (.aload_n 0, 1) := by decide +kernel
theorem dX5_sign_1 : decode cX5_sign 1 = .ok (.getfield 190, 3) := by decide +kernel
theorem dX5_sign_4 : decode cX5_sign 4 = .ok (.aload_n 0, 1) := by decide +kernel
theorem dX5_sign_5 : decode cX5_sign 5 = .ok (.getfield 168, 3) := by decide +kernel
theorem dX5_sign_8 : decode cX5_sign 8 = .ok (.if_icmp .ge 15, 3) := by decide +kernel
theorem dX5_sign_11 : decode cX5_sign 11 = .ok (.aload_n 0, 1) := by decide +kernel
theorem dX5_sign_12 : decode cX5_sign 12 = .ok (.getfield 23, 3) := by decide +kernel
theorem dX5_sign_15 : decode cX5_sign 15 = .ok (.aload_n 0, 1) := by decide +kernel
theorem dX5_sign_16 : decode cX5_sign 16 = .ok (.getfield 190, 3) := by decide +kernel
theorem dX5_sign_19 : decode cX5_sign 19 = .ok (.iaload, 1) := by decide +kernel
theorem dX5_sign_20 : decode cX5_sign 20 = .ok (.goto 4, 3) := by decide +kernel
theorem dX5_sign_23 : decode cX5_sign 23 = .ok (.iconst 0, 1) := by decide +kernel
theorem dX5_sign_24 : decode cX5_sign 24 = .ok (.ireturn, 1) := by decide +kernel
set_option maxRecDepth 20000 in
theorem ggX5_wants_X5_sign : GoodIn wsX5_wants wsX5_sign := goodIn_r _ [7, 2, 8, 9, 10, 11, 12, 13, 14, 15, 16, 17, 18, 19, 20, 21, 22, 23, 24, 25, 26, 27, 28, 29, 30, 31, 32] (by decide +kernel) (by decide +kernel)
set_option maxRecDepth 20000 in
theorem gX5_wants_X5_sign : GoodIn wsX5_wants (wsV RX5 197 RX5 yX5_sign wsX5_sign) := goodIn_app (goodIn_of _ (by decide +kernel)) ggX5_wants_X5_sign
theorem dX5_wants_0 : decode cX5_wants 0 = .ok (.aload_n 0, 1) := by decide +kernel
theorem dX5_wants_1 : decode cX5_wants 1 = .ok (.aload_n 0, 1) := by decide +kernel
theorem dX5_wants_2 : decode cX5_wants 2 = .ok (.getfield 193, 3) := by decide +kernel
theorem dX5_wants_5 : decode cX5_wants 5 = .ok (.ifCond .eq 15, 3) := by decide +kernel
theorem dX5_wants_8 : decode cX5_wants 8 = .ok (.aload_n 0, 1) := by decide +kernel
theorem dX5_wants_9 : decode cX5_wants 9 = .ok (.invokevirtual 197, 3) := by decide +kernel
theorem dX5_wants_12 : decode cX5_wants 12 = .ok (.iload_n 1, 1) := by decide +kernel
theorem dX5_wants_13 : decode cX5_wants 13 = .ok (.if_icmp .ne 7, 3) := by decide +kernel
theorem dX5_wants_16 : decode cX5_wants 16 = .ok (.iconst 1, 1) := by decide +kernel
theorem dX5_wants_17 : decode cX5_wants 17 = .ok (.goto 4, 3) := by decide +kernel
theorem dX5_wants_20 : decode cX5_wants 20 = .ok (.iconst 0, 1) := by decide +kernel
theorem dX5_wants_21 : decode cX5_wants 21 = .ok (.putfield 193, 3) := by decide +kernel
theorem dX5_wants_24 : decode cX5_wants 24 = .ok (.aload_n 0, 1) := by decide +kernel
theorem dX5_wants_25 : decode cX5_wants 25 = .ok (.dup, 1) := by decide +kernel
theorem dX5_wants_26 : decode cX5_wants 26 = .ok (.getfield 190, 3) := by decide +kernel
theorem dX5_wants_29 : decode cX5_wants 29 = .ok (.aload_n 0, 1) := by decide +kernel
theorem dX5_wants_30 : decode cX5_wants 30 = .ok (.getfield 193, 3) := by decide +kernel
theorem dX5_wants_33 : decode cX5_wants 33 = .ok (.ifCond .eq 7, 3) := by decide +kernel
theorem dX5_wants_36 : decode cX5_wants 36 = .ok (.iconst 1, 1) := by decide +kernel
theorem dX5_wants_37 : decode cX5_wants 37 = .ok (.goto 4, 3) := by decide +kernel
theorem dX5_wants_40 : decode cX5_wants 40 = .ok (.iconst 0, 1) := by decide +kernel
theorem dX5_wants_41 : decode cX5_wants 41 = .ok (.iadd, 1) := by decide +kernel
theorem dX5_wants_42 : decode cX5_wants 42 = .ok (.putfield 190, 3) := by decide +kernel
theorem dX5_wants_45 : decode cX5_wants 45 = .ok (.return_, 1) := by decide +kernel
set_option maxRecDepth 20000 in
theorem ggX5_digit_X5_sign : GoodIn wsX5_digit wsX5_sign := goodIn_r _ [7, 2, 8, 9, 13, 14, 15, 16, 17, 18, 19, 20, 21, 22, 23, 24, 25, 26, 27, 28, 29, 30, 31, 32, 33, 34, 35] (by decide +kernel) (by decide +kernel)
set_option maxRecDepth 20000 in
theorem gX5_digit_X5_sign : GoodIn wsX5_digit (wsV RX5 197 RX5 yX5_sign wsX5_sign) := goodIn_app (goodIn_of _ (by decide +kernel)) ggX5_digit_X5_sign
set_option maxRecDepth 20000 in
theorem ggX5_digit_X5_in : GoodIn wsX5_digit wsX5_in := goodIn_r _ [12] (by decide +kernel) (by decide +kernel)
set_option maxRecDepth 20000 in
theorem gX5_digit_X5_in : GoodIn wsX5_digit (va_wsS RX5 107 yX5_in wsX5_in) := goodIn_app (goodIn_of _ (by decide +kernel)) ggX5_digit_X5_in
theorem dX5_digit_0 : decode cX5_digit 0 = .ok (.aload_n 0, 1) := by decide +kernel
theorem dX5_digit_1 : decode cX5_digit 1 = .ok (.aload_n 0, 1) := by decide +kernel
theorem dX5_digit_2 : decode cX5_digit 2 = .ok (.getfield 193, 3) := by decide +kernel
theorem dX5_digit_5 : decode cX5_digit 5 = .ok (.ifCond .eq 23, 3) := by decide +kernel
theorem dX5_digit_8 : decode cX5_digit 8 = .ok (.aload_n 0, 1) := by decide +kernel
theorem dX5_digit_9 : decode cX5_digit 9 = .ok (.invokevirtual 197, 3) := by decide +kernel
theorem dX5_digit_12 : decode cX5_digit 12 = .ok (.bipush 48, 2) := by decide +kernel
theorem dX5_digit_14 : decode cX5_digit 14 = .ok (.bipush 48, 2) := by decide +kernel
theorem dX5_digit_16 : decode cX5_digit 16 = .ok (.iload_n 1, 1) := by decide +kernel
theorem dX5_digit_17 : decode cX5_digit 17 = .ok (.iadd, 1) := by decide +kernel
theorem dX5_digit_18 : decode cX5_digit 18 = .ok (.invokestatic 107, 3) := by decide +kernel
theorem dX5_digit_21 : decode cX5_digit 21 = .ok (.ifCond .eq 7, 3) := by decide +kernel
theorem dX5_digit_24 : decode cX5_digit 24 = .ok (.iconst 1, 1) := by decide +kernel
theorem dX5_digit_25 : decode cX5_digit 25 = .ok (.goto 4, 3) := by decide +kernel
theorem dX5_digit_28 : decode cX5_digit 28 = .ok (.iconst 0, 1) := by decide +kernel
theorem dX5_digit_29 : decode cX5_digit 29 = .ok (.putfield 193, 3) := by decide +kernel
theorem dX5_digit_32 : decode cX5_digit 32 = .ok (.aload_n 0, 1) := by decide +kernel
theorem dX5_digit_33 : decode cX5_digit 33 = .ok (.invokevirtual 197, 3) := by decide +kernel
theorem dX5_digit_36 : decode cX5_digit 36 = .ok (.bipush 48, 2) := by decide +kernel
theorem dX5_digit_38 : decode cX5_digit 38 = .ok (.isub, 1) := by decide +kernel
theorem dX5_digit_39 : decode cX5_digit 39 = .ok (.istore_n 2, 1) := by decide +kernel
theorem dX5_digit_40 : decode cX5_digit 40 = .ok (.aload_n 0, 1) := by decide +kernel
theorem dX5_digit_41 : decode cX5_digit 41 = .ok (.dup, 1) := by decide +kernel
theorem dX5_digit_42 : decode cX5_digit 42 = .ok (.getfield 190, 3) := by decide +kernel
theorem dX5_digit_45 : decode cX5_digit 45 = .ok (.aload_n 0, 1) := by decide +kernel
theorem dX5_digit_46 : decode cX5_digit 46 = .ok (.getfield 193, 3) := by decide +kernel
theorem dX5_digit_49 : decode cX5_digit 49 = .ok (.ifCond .eq 7, 3) := by decide +kernel
theorem dX5_digit_52 : decode cX5_digit 52 = .ok (.iconst 1, 1) := by decide +kernel
theorem dX5_digit_53 : decode cX5_digit 53 = .ok (.goto 4, 3) := by decide +kernel
theorem dX5_digit_56 : decode cX5_digit 56 = .ok (.iconst 0, 1) := by decide +kernel
theorem dX5_digit_57 : decode cX5_digit 57 = .ok (.iadd, 1) := by decide +kernel
theorem dX5_digit_58 : decode cX5_digit 58 = .ok (.putfield 190, 3) := by decide +kernel
theorem dX5_digit_61 : decode cX5_digit 61 = .ok (.iload_n 2, 1) := by decide +kernel
theorem dX5_digit_62 : decode cX5_digit 62 = .ok (.ireturn, 1) := by decide +kernel
set_option maxRecDepth 20000 in
theorem ggX5_number_X5_digit : GoodIn wsX5_number wsX5_digit := goodIn_r _ [7, 1, 2, 8, 9, 10, 6, 11, 12, 13, 14, 15, 16, 17, 18, 19, 20, 21, 22, 23, 24, 25, 26, 27, 28, 29, 30, 31, 32, 33, 34, 35, 36, 37, 38, 39] (by decide +kernel) (by decide +kernel)
set_option maxRecDepth 20000 in
theorem gX5_number_X5_digit : GoodIn wsX5_number (wsV RX5 201 RX5 yX5_digit wsX5_digit) := goodIn_app (goodIn_of _ (by decide +kernel)) ggX5_number_X5_digit
set_option maxRecDepth 20000 in
theorem ggX5_number_X5_sign : GoodIn wsX5_number wsX5_sign := goodIn_r _ [11, 2, 12, 13, 17, 18, 19, 20, 21, 22, 23, 24, 25, 26, 27, 28, 29, 30, 31, 32, 33, 34, 35, 36, 37, 38, 39] (by decide +kernel) (by decide +kernel)
set_option maxRecDepth 20000 in
theorem gX5_number_X5_sign : GoodIn wsX5_number (wsV RX5 197 RX5 yX5_sign wsX5_sign) := goodIn_app (goodIn_of _ (by decide +kernel)) ggX5_number_X5_sign
set_option maxRecDepth 20000 in
theorem ggX5_number_X5_in : GoodIn wsX5_number wsX5_in := goodIn_r _ [16] (by decide +kernel) (by decide +kernel)
set_option maxRecDepth 20000 in
theorem gX5_number_X5_in : GoodIn wsX5_number (va_wsS RX5 107 yX5_in wsX5_in) := goodIn_app (goodIn_of _ (by decide +kernel)) ggX5_number_X5_in
theorem dX5_number_0 : decode cX5_number 0 = .ok (.aload_n 0, 1) := by decide +kernel
theorem dX5_number_1 : decode cX5_number 1 = .ok (.bipush 9, 2) := by decide +kernel
theorem dX5_number_3 : decode cX5_number 3 = .ok (.invokevirtual 201, 3) := by decide +kernel
theorem dX5_number_6 : decode cX5_number 6 = .ok (.istore_n 1, 1) := by decide +kernel
theorem dX5_number_7 : decode cX5_number 7 = .ok (.iconst 1, 1) := by decide +kernel
theorem dX5_number_8 : decode cX5_number 8 = .ok (.istore_n 2, 1) := by decide +kernel
theorem dX5_number_9 : decode cX5_number 9 = .ok (.iload_n 2, 1) := by decide +kernel
theorem dX5_number_10 : decode cX5_number 10 = .ok (.iconst 3, 1) := by decide +kernel
theorem dX5_number_11 : decode cX5_number 11 = .ok (.if_icmp .ge 57, 3) := by decide +kernel
theorem dX5_number_14 : decode cX5_number 14 = .ok (.aload_n 0, 1) := by decide +kernel
theorem dX5_number_15 : decode cX5_number 15 = .ok (.getfield 193, 3) := by decide +kernel
theorem dX5_number_18 : decode cX5_number 18 = .ok (.ifCond .eq 50, 3) := by decide +kernel
theorem dX5_number_21 : decode cX5_number 21 = .ok (.iload_n 1, 1) := by decide +kernel
theorem dX5_number_22 : decode cX5_number 22 = .ok (.ifCond .le 46, 3) := by decide +kernel
theorem dX5_number_25 : decode cX5_number 25 = .ok (.aload_n 0, 1) := by decide +kernel
theorem dX5_number_26 : decode cX5_number 26 = .ok (.invokevirtual 197, 3) := by decide +kernel
theorem dX5_number_29 : decode cX5_number 29 = .ok (.bipush 48, 2) := by decide +kernel
theorem dX5_number_31 : decode cX5_number 31 = .ok (.bipush 57, 2) := by decide +kernel
theorem dX5_number_33 : decode cX5_number 33 = .ok (.invokestatic 107, 3) := by decide +kernel
theorem dX5_number_36 : decode cX5_number 36 = .ok (.ifCond .eq 32, 3) := by decide +kernel
theorem dX5_number_39 : decode cX5_number 39 = .ok (.bipush 10, 2) := by decide +kernel
theorem dX5_number_41 : decode cX5_number 41 = .ok (.iload_n 1, 1) := by decide +kernel
theorem dX5_number_42 : decode cX5_number 42 = .ok (.imul, 1) := by decide +kernel
theorem dX5_number_43 : decode cX5_number 43 = .ok (.aload_n 0, 1) := by decide +kernel
theorem dX5_number_44 : decode cX5_number 44 = .ok (.invokevirtual 197, 3) := by decide +kernel
theorem dX5_number_47 : decode cX5_number 47 = .ok (.iadd, 1) := by decide +kernel
theorem dX5_number_48 : decode cX5_number 48 = .ok (.bipush 48, 2) := by decide +kernel
theorem dX5_number_50 : decode cX5_number 50 = .ok (.isub, 1) := by decide +kernel
theorem dX5_number_51 : decode cX5_number 51 = .ok (.istore_n 1, 1) := by decide +kernel
theorem dX5_number_52 : decode cX5_number 52 = .ok (.aload_n 0, 1) := by decide +kernel
theorem dX5_number_53 : decode cX5_number 53 = .ok (.dup, 1) := by decide +kernel
theorem dX5_number_54 : decode cX5_number 54 = .ok (.getfield 190, 3) := by decide +kernel
theorem dX5_number_57 : decode cX5_number 57 = .ok (.iconst 1, 1) := by decide +kernel
theorem dX5_number_58 : decode cX5_number 58 = .ok (.iadd, 1) := by decide +kernel
theorem dX5_number_59 : decode cX5_number 59 = .ok (.putfield 190, 3) := by decide +kernel
theorem dX5_number_62 : decode cX5_number 62 = .ok (.iinc 2 1, 3) := by decide +kernel
theorem dX5_number_65 : decode cX5_number 65 = .ok (.goto (-56), 3) := by decide +kernel
theorem dX5_number_68 : decode cX5_number 68 = .ok (.iload_n 1, 1) := by decide +kernel
theorem dX5_number_69 : decode cX5_number 69 = .ok (.ireturn, 1) := by decide +kernel
set_option maxRecDepth 20000 in
theorem ggX5_readsVisit_X5_number : GoodIn wsX5_readsVisit wsX5_number := goodIn_r _ [6, 7, 8, 9, 10, 11, 5, 12, 13, 14, 15, 16, 17, 18, 19, 20, 21, 26, 27, 28, 29, 30, 31, 32, 33, 34, 35, 36, 37, 38, 39, 40, 41, 42, 43, 44, 45, 46, 47, 48] (by decide +kernel) (by decide +kernel)
set_option maxRecDepth 20000 in
theorem gX5_readsVisit_X5_number : GoodIn wsX5_readsVisit (wsV RX5 204 RX5 yX5_number wsX5_number) := goodIn_app (goodIn_of _ (by decide +kernel)) ggX5_readsVisit_X5_number
set_option maxRecDepth 20000 in
theorem ggX5_readsVisit_X5_wants : GoodIn wsX5_readsVisit wsX5_wants := goodIn_r _ [25, 7, 8, 13, 14, 15, 5, 16, 17, 18, 26, 27, 28, 29, 30, 31, 32, 33, 34, 35, 36, 37, 38, 39, 40, 41, 42, 43, 44, 45, 46, 47, 48] (by decide +kernel) (by decide +kernel)
set_option maxRecDepth 20000 in
theorem gX5_readsVisit_X5_wants : GoodIn wsX5_readsVisit (wsV RX5 207 RX5 yX5_wants wsX5_wants) := goodIn_app (goodIn_of _ (by decide +kernel)) ggX5_readsVisit_X5_wants
set_option maxRecDepth 20000 in
theorem ggX5_readsVisit_X5_digit : GoodIn wsX5_readsVisit wsX5_digit := goodIn_r _ [12, 7, 8, 13, 14, 15, 5, 16, 17, 18, 19, 20, 21, 26, 27, 28, 29, 30, 31, 32, 33, 34, 35, 36, 37, 38, 39, 40, 41, 42, 43, 44, 45, 46, 47, 48] (by decide +kernel) (by decide +kernel)
set_option maxRecDepth 20000 in
theorem gX5_readsVisit_X5_digit : GoodIn wsX5_readsVisit (wsV RX5 201 RX5 yX5_digit wsX5_digit) := goodIn_app (goodIn_of _ (by decide +kernel)) ggX5_readsVisit_X5_digit
theorem dX5_readsVisit_0 : decode cX5_readsVisit 0 = .ok (.aload_n 0, 1) := by decide +kernel
theorem dX5_readsVisit_1 : decode cX5_readsVisit 1 = .ok (.getfield 59, 3) := by decide +kernel
theorem dX5_readsVisit_4 : decode cX5_readsVisit 4 = .ok (.iload_n 1, 1) := by decide +kernel
theorem dX5_readsVisit_5 : decode cX5_readsVisit 5 = .ok (.iconst 1, 1) := by decide +kernel
theorem dX5_readsVisit_6 : decode cX5_readsVisit 6 = .ok (.iadd, 1) := by decide +kernel
theorem dX5_readsVisit_7 : decode cX5_readsVisit 7 = .ok (.aload_n 0, 1) := by decide +kernel
theorem dX5_readsVisit_8 : decode cX5_readsVisit 8 = .ok (.invokevirtual 204, 3) := by decide +kernel
theorem dX5_readsVisit_11 : decode cX5_readsVisit 11 = .ok (.iastore, 1) := by decide +kernel
theorem dX5_readsVisit_12 : decode cX5_readsVisit 12 = .ok (.aload_n 0, 1) := by decide +kernel
theorem dX5_readsVisit_13 : decode cX5_readsVisit 13 = .ok (.bipush 35, 2) := by decide +kernel
theorem dX5_readsVisit_15 : decode cX5_readsVisit 15 = .ok (.invokevirtual 207, 3) := by decide +kernel
theorem dX5_readsVisit_18 : decode cX5_readsVisit 18 = .ok (.aload_n 0, 1) := by decide +kernel
theorem dX5_readsVisit_19 : decode cX5_readsVisit 19 = .ok (.getfield 59, 3) := by decide +kernel
theorem dX5_readsVisit_22 : decode cX5_readsVisit 22 = .ok (.iload_n 1, 1) := by decide +kernel
theorem dX5_readsVisit_23 : decode cX5_readsVisit 23 = .ok (.iconst 2, 1) := by decide +kernel
theorem dX5_readsVisit_24 : decode cX5_readsVisit 24 = .ok (.iadd, 1) := by decide +kernel
theorem dX5_readsVisit_25 : decode cX5_readsVisit 25 = .ok (.aload_n 0, 1) := by decide +kernel
theorem dX5_readsVisit_26 : decode cX5_readsVisit 26 = .ok (.bipush 9, 2) := by decide +kernel
theorem dX5_readsVisit_28 : decode cX5_readsVisit 28 = .ok (.invokevirtual 201, 3) := by decide +kernel
theorem dX5_readsVisit_31 : decode cX5_readsVisit 31 = .ok (.iastore, 1) := by decide +kernel
theorem dX5_readsVisit_32 : decode cX5_readsVisit 32 = .ok (.aload_n 0, 1) := by decide +kernel
theorem dX5_readsVisit_33 : decode cX5_readsVisit 33 = .ok (.bipush 43, 2) := by decide +kernel
theorem dX5_readsVisit_35 : decode cX5_readsVisit 35 = .ok (.invokevirtual 207, 3) := by decide +kernel
theorem dX5_readsVisit_38 : decode cX5_readsVisit 38 = .ok (.aload_n 0, 1) := by decide +kernel
theorem dX5_readsVisit_39 : decode cX5_readsVisit 39 = .ok (.getfield 59, 3) := by decide +kernel
theorem dX5_readsVisit_42 : decode cX5_readsVisit 42 = .ok (.iload_n 1, 1) := by decide +kernel
theorem dX5_readsVisit_43 : decode cX5_readsVisit 43 = .ok (.iconst 3, 1) := by decide +kernel
theorem dX5_readsVisit_44 : decode cX5_readsVisit 44 = .ok (.iadd, 1) := by decide +kernel
theorem dX5_readsVisit_45 : decode cX5_readsVisit 45 = .ok (.aload_n 0, 1) := by decide +kernel
theorem dX5_readsVisit_46 : decode cX5_readsVisit 46 = .ok (.bipush 9, 2) := by decide +kernel
theorem dX5_readsVisit_48 : decode cX5_readsVisit 48 = .ok (.invokevirtual 201, 3) := by decide +kernel
theorem dX5_readsVisit_51 : decode cX5_readsVisit 51 = .ok (.iastore, 1) := by decide +kernel
theorem dX5_readsVisit_52 : decode cX5_readsVisit 52 = .ok (.aload_n 0, 1) := by decide +kernel
theorem dX5_readsVisit_53 : decode cX5_readsVisit 53 = .ok (.bipush 42, 2) := by decide +kernel
theorem dX5_readsVisit_55 : decode cX5_readsVisit 55 = .ok (.invokevirtual 207, 3) := by decide +kernel
theorem dX5_readsVisit_58 : decode cX5_readsVisit 58 = .ok (.aload_n 0, 1) := by decide +kernel
theorem dX5_readsVisit_59 : decode cX5_readsVisit 59 = .ok (.getfield 59, 3) := by decide +kernel
theorem dX5_readsVisit_62 : decode cX5_readsVisit 62 = .ok (.iload_n 1, 1) := by decide +kernel
theorem dX5_readsVisit_63 : decode cX5_readsVisit 63 = .ok (.iconst 4, 1) := by decide +kernel
theorem dX5_readsVisit_64 : decode cX5_readsVisit 64 = .ok (.iadd, 1) := by decide +kernel
theorem dX5_readsVisit_65 : decode cX5_readsVisit 65 = .ok (.aload_n 0, 1) := by decide +kernel
theorem dX5_readsVisit_66 : decode cX5_readsVisit 66 = .ok (.bipush 9, 2) := by decide +kernel
theorem dX5_readsVisit_68 : decode cX5_readsVisit 68 = .ok (.invokevirtual 201, 3) := by decide +kernel
theorem dX5_readsVisit_71 : decode cX5_readsVisit 71 = .ok (.iastore, 1) := by decide +kernel
theorem dX5_readsVisit_72 : decode cX5_readsVisit 72 = .ok (.aload_n 0, 1) := by decide +kernel
theorem dX5_readsVisit_73 : decode cX5_readsVisit 73 = .ok (.bipush 58, 2) := by decide +kernel
theorem dX5_readsVisit_75 : decode cX5_readsVisit 75 = .ok (.invokevirtual 207, 3) := by decide +kernel
theorem dX5_readsVisit_78 : decode cX5_readsVisit 78 = .ok (.aload_n 0, 1) := by decide +kernel
theorem dX5_readsVisit_79 : decode cX5_readsVisit 79 = .ok (.getfield 59, 3) := by decide +kernel
theorem dX5_readsVisit_82 : decode cX5_readsVisit 82 = .ok (.iload_n 1, 1) := by decide +kernel
theorem dX5_readsVisit_83 : decode cX5_readsVisit 83 = .ok (.iconst 5, 1) := by decide +kernel
theorem dX5_readsVisit_84 : decode cX5_readsVisit 84 = .ok (.iadd, 1) := by decide +kernel
theorem dX5_readsVisit_85 : decode cX5_readsVisit 85 = .ok (.aload_n 0, 1) := by decide +kernel
theorem dX5_readsVisit_86 : decode cX5_readsVisit 86 = .ok (.invokevirtual 204, 3) := by decide +kernel
theorem dX5_readsVisit_89 : decode cX5_readsVisit 89 = .ok (.iastore, 1) := by decide +kernel
theorem dX5_readsVisit_90 : decode cX5_readsVisit 90 = .ok (.aload_n 0, 1) := by decide +kernel
theorem dX5_readsVisit_91 : decode cX5_readsVisit 91 = .ok (.bipush 45, 2) := by decide +kernel
theorem dX5_readsVisit_93 : decode cX5_readsVisit 93 = .ok (.invokevirtual 207, 3) := by decide +kernel
theorem dX5_readsVisit_96 : decode cX5_readsVisit 96 = .ok (.aload_n 0, 1) := by decide +kernel
theorem dX5_readsVisit_97 : decode cX5_readsVisit 97 = .ok (.getfield 59, 3) := by decide +kernel
theorem dX5_readsVisit_100 : decode cX5_readsVisit 100 = .ok (.iload_n 1, 1) := by decide +kernel
theorem dX5_readsVisit_101 : decode cX5_readsVisit 101 = .ok (.bipush 6, 2) := by decide +kernel
theorem dX5_readsVisit_103 : decode cX5_readsVisit 103 = .ok (.iadd, 1) := by decide +kernel
theorem dX5_readsVisit_104 : decode cX5_readsVisit 104 = .ok (.aload_n 0, 1) := by decide +kernel
theorem dX5_readsVisit_105 : decode cX5_readsVisit 105 = .ok (.invokevirtual 204, 3) := by decide +kernel
theorem dX5_readsVisit_108 : decode cX5_readsVisit 108 = .ok (.iastore, 1) := by decide +kernel
theorem dX5_readsVisit_109 : decode cX5_readsVisit 109 = .ok (.return_, 1) := by decide +kernel
set_option maxRecDepth 20000 in
theorem ggX5_readsVan_X5_number : GoodIn wsX5_readsVan wsX5_number := goodIn_r _ [7, 2, 8, 9, 10, 11, 6, 12, 13, 14, 15, 16, 17, 18, 19, 20, 21, 26, 27, 28, 29, 30, 31, 32, 33, 34, 35, 36, 37, 38, 39, 40, 41, 42, 43, 44, 45, 46, 47, 48] (by decide +kernel) (by decide +kernel)
set_option maxRecDepth 20000 in
theorem gX5_readsVan_X5_number : GoodIn wsX5_readsVan (wsV RX5 204 RX5 yX5_number wsX5_number) := goodIn_app (goodIn_of _ (by decide +kernel)) ggX5_readsVan_X5_number
set_option maxRecDepth 20000 in
theorem ggX5_readsVan_X5_wants : GoodIn wsX5_readsVan wsX5_wants := goodIn_r _ [25, 2, 8, 13, 14, 15, 6, 16, 17, 18, 26, 27, 28, 29, 30, 31, 32, 33, 34, 35, 36, 37, 38, 39, 40, 41, 42, 43, 44, 45, 46, 47, 48] (by decide +kernel) (by decide +kernel)
set_option maxRecDepth 20000 in
theorem gX5_readsVan_X5_wants : GoodIn wsX5_readsVan (wsV RX5 207 RX5 yX5_wants wsX5_wants) := goodIn_app (goodIn_of _ (by decide +kernel)) ggX5_readsVan_X5_wants
set_option maxRecDepth 20000 in
theorem ggX5_readsVan_X5_digit : GoodIn wsX5_readsVan wsX5_digit := goodIn_r _ [12, 2, 8, 13, 14, 15, 6, 16, 17, 18, 19, 20, 21, 26, 27, 28, 29, 30, 31, 32, 33, 34, 35, 36, 37, 38, 39, 40, 41, 42, 43, 44, 45, 46, 47, 48] (by decide +kernel) (by decide +kernel)
set_option maxRecDepth 20000 in
theorem gX5_readsVan_X5_digit : GoodIn wsX5_readsVan (wsV RX5 201 RX5 yX5_digit wsX5_digit) := goodIn_app (goodIn_of _ (by decide +kernel)) ggX5_readsVan_X5_digit
set_option maxRecDepth 20000 in
theorem ggX5_readsVan_X5_sign : GoodIn wsX5_readsVan wsX5_sign := goodIn_r _ [16, 8, 17, 18, 26, 27, 28, 29, 30, 31, 32, 33, 34, 35, 36, 37, 38, 39, 40, 41, 42, 43, 44, 45, 46, 47, 48] (by decide +kernel) (by decide +kernel)
set_option maxRecDepth 20000 in
theorem gX5_readsVan_X5_sign : GoodIn wsX5_readsVan (wsV RX5 197 RX5 yX5_sign wsX5_sign) := goodIn_app (goodIn_of _ (by decide +kernel)) ggX5_readsVan_X5_sign
set_option maxRecDepth 20000 in
theorem ggX5_readsVan_X5_in : GoodIn wsX5_readsVan wsX5_in := goodIn_r _ [21] (by decide +kernel) (by decide +kernel)
set_option maxRecDepth 20000 in
theorem gX5_readsVan_X5_in : GoodIn wsX5_readsVan (va_wsS RX5 107 yX5_in wsX5_in) := goodIn_app (goodIn_of _ (by decide +kernel)) ggX5_readsVan_X5_in
theorem dX5_readsVan_0 : decode cX5_readsVan 0 = .ok (.aload_n 0, 1) := by decide +kernel
theorem dX5_readsVan_1 : decode cX5_readsVan 1 = .ok (.getfield 59, 3) := by decide +kernel
theorem dX5_readsVan_4 : decode cX5_readsVan 4 = .ok (.iload_n 1, 1) := by decide +kernel
theorem dX5_readsVan_5 : decode cX5_readsVan 5 = .ok (.iconst 1, 1) := by decide +kernel
theorem dX5_readsVan_6 : decode cX5_readsVan 6 = .ok (.iadd, 1) := by decide +kernel
theorem dX5_readsVan_7 : decode cX5_readsVan 7 = .ok (.aload_n 0, 1) := by decide +kernel
theorem dX5_readsVan_8 : decode cX5_readsVan 8 = .ok (.invokevirtual 204, 3) := by decide +kernel
theorem dX5_readsVan_11 : decode cX5_readsVan 11 = .ok (.iastore, 1) := by decide +kernel
theorem dX5_readsVan_12 : decode cX5_readsVan 12 = .ok (.aload_n 0, 1) := by decide +kernel
theorem dX5_readsVan_13 : decode cX5_readsVan 13 = .ok (.bipush 47, 2) := by decide +kernel
theorem dX5_readsVan_15 : decode cX5_readsVan 15 = .ok (.invokevirtual 207, 3) := by decide +kernel
theorem dX5_readsVan_18 : decode cX5_readsVan 18 = .ok (.iconst 1, 1) := by decide +kernel
theorem dX5_readsVan_19 : decode cX5_readsVan 19 = .ok (.aload_n 0, 1) := by decide +kernel
theorem dX5_readsVan_20 : decode cX5_readsVan 20 = .ok (.iconst 3, 1) := by decide +kernel
theorem dX5_readsVan_21 : decode cX5_readsVan 21 = .ok (.invokevirtual 201, 3) := by decide +kernel
theorem dX5_readsVan_24 : decode cX5_readsVan 24 = .ok (.bipush 7, 2) := by decide +kernel
theorem dX5_readsVan_26 : decode cX5_readsVan 26 = .ok (.iand, 1) := by decide +kernel
theorem dX5_readsVan_27 : decode cX5_readsVan 27 = .ok (.ishl, 1) := by decide +kernel
theorem dX5_readsVan_28 : decode cX5_readsVan 28 = .ok (.istore_n 2, 1) := by decide +kernel
theorem dX5_readsVan_29 : decode cX5_readsVan 29 = .ok (.aload_n 0, 1) := by decide +kernel
theorem dX5_readsVan_30 : decode cX5_readsVan 30 = .ok (.getfield 193, 3) := by decide +kernel
theorem dX5_readsVan_33 : decode cX5_readsVan 33 = .ok (.ifCond .eq 30, 3) := by decide +kernel
theorem dX5_readsVan_36 : decode cX5_readsVan 36 = .ok (.aload_n 0, 1) := by decide +kernel
theorem dX5_readsVan_37 : decode cX5_readsVan 37 = .ok (.invokevirtual 197, 3) := by decide +kernel
theorem dX5_readsVan_40 : decode cX5_readsVan 40 = .ok (.bipush 48, 2) := by decide +kernel
theorem dX5_readsVan_42 : decode cX5_readsVan 42 = .ok (.bipush 51, 2) := by decide +kernel
theorem dX5_readsVan_44 : decode cX5_readsVan 44 = .ok (.invokestatic 107, 3) := by decide +kernel
theorem dX5_readsVan_47 : decode cX5_readsVan 47 = .ok (.ifCond .eq 16, 3) := by decide +kernel
theorem dX5_readsVan_50 : decode cX5_readsVan 50 = .ok (.iload_n 2, 1) := by decide +kernel
theorem dX5_readsVan_51 : decode cX5_readsVan 51 = .ok (.iconst 1, 1) := by decide +kernel
theorem dX5_readsVan_52 : decode cX5_readsVan 52 = .ok (.aload_n 0, 1) := by decide +kernel
theorem dX5_readsVan_53 : decode cX5_readsVan 53 = .ok (.iconst 3, 1) := by decide +kernel
theorem dX5_readsVan_54 : decode cX5_readsVan 54 = .ok (.invokevirtual 201, 3) := by decide +kernel
theorem dX5_readsVan_57 : decode cX5_readsVan 57 = .ok (.ishl, 1) := by decide +kernel
theorem dX5_readsVan_58 : decode cX5_readsVan 58 = .ok (.ior, 1) := by decide +kernel
theorem dX5_readsVan_59 : decode cX5_readsVan 59 = .ok (.istore_n 2, 1) := by decide +kernel
theorem dX5_readsVan_60 : decode cX5_readsVan 60 = .ok (.goto (-31), 3) := by decide +kernel
theorem dX5_readsVan_63 : decode cX5_readsVan 63 = .ok (.aload_n 0, 1) := by decide +kernel
theorem dX5_readsVan_64 : decode cX5_readsVan 64 = .ok (.getfield 59, 3) := by decide +kernel
theorem dX5_readsVan_67 : decode cX5_readsVan 67 = .ok (.iload_n 1, 1) := by decide +kernel
theorem dX5_readsVan_68 : decode cX5_readsVan 68 = .ok (.iconst 2, 1) := by decide +kernel
theorem dX5_readsVan_69 : decode cX5_readsVan 69 = .ok (.iadd, 1) := by decide +kernel
theorem dX5_readsVan_70 : decode cX5_readsVan 70 = .ok (.iload_n 2, 1) := by decide +kernel
theorem dX5_readsVan_71 : decode cX5_readsVan 71 = .ok (.iastore, 1) := by decide +kernel
theorem dX5_readsVan_72 : decode cX5_readsVan 72 = .ok (.return_, 1) := by decide +kernel
set_option maxRecDepth 20000 in
theorem ggX5_readsOrder_X5_sign : GoodIn wsX5_readsOrder wsX5_sign := goodIn_r _ [9, 3, 10, 11, 35, 36, 37, 38, 39, 40, 41, 42, 43, 44, 45, 46, 47, 48, 49, 50, 51, 52, 53, 54, 55, 56, 57] (by decide +kernel) (by decide +kernel)
set_option maxRecDepth 20000 in
theorem gX5_readsOrder_X5_sign : GoodIn wsX5_readsOrder (wsV RX5 197 RX5 yX5_sign wsX5_sign) := goodIn_app (goodIn_of _ (by decide +kernel)) ggX5_readsOrder_X5_sign
set_option maxRecDepth 20000 in
theorem ggX5_readsOrder_X5_readsVisit : GoodIn wsX5_readsOrder wsX5_readsVisit := goodIn_r _ [15, 4, 16, 17, 18, 8, 19, 2, 3, 20, 21, 22, 23, 5, 6, 7, 9, 10, 11, 24, 25, 26, 27, 28, 29, 30, 35, 36, 37, 38, 39, 40, 41, 42, 43, 44, 45, 46, 47, 48, 49, 50, 51, 52, 53, 54, 55, 56, 57] (by decide +kernel) (by decide +kernel)
set_option maxRecDepth 20000 in
theorem gX5_readsOrder_X5_readsVisit : GoodIn wsX5_readsOrder (wsV RX5 214 RX5 yX5_readsVisit wsX5_readsVisit) := goodIn_app (goodIn_of _ (by decide +kernel)) ggX5_readsOrder_X5_readsVisit
set_option maxRecDepth 20000 in
theorem ggX5_readsOrder_X5_readsVan : GoodIn wsX5_readsOrder wsX5_readsVan := goodIn_r _ [34, 4, 2, 16, 17, 18, 8, 19, 3, 20, 21, 22, 23, 5, 6, 7, 9, 10, 11, 24, 25, 26, 27, 28, 29, 30, 35, 36, 37, 38, 39, 40, 41, 42, 43, 44, 45, 46, 47, 48, 49, 50, 51, 52, 53, 54, 55, 56, 57] (by decide +kernel) (by decide +kernel)
set_option maxRecDepth 20000 in
theorem gX5_readsOrder_X5_readsVan : GoodIn wsX5_readsOrder (wsV RX5 217 RX5 yX5_readsVan wsX5_readsVan) := goodIn_app (goodIn_of _ (by decide +kernel)) ggX5_readsOrder_X5_readsVan
set_option maxRecDepth 20000 in
theorem ggX5_readsOrder_X5_digit : GoodIn wsX5_readsOrder wsX5_digit := goodIn_r _ [23, 2, 3, 5, 6, 7, 8, 9, 10, 11, 24, 25, 26, 35, 36, 37, 38, 39, 40, 41, 42, 43, 44, 45, 46, 47, 48, 49, 50, 51, 52, 53, 54, 55, 56, 57] (by decide +kernel) (by decide +kernel)
set_option maxRecDepth 20000 in
theorem gX5_readsOrder_X5_digit : GoodIn wsX5_readsOrder (wsV RX5 201 RX5 yX5_digit wsX5_digit) := goodIn_app (goodIn_of _ (by decide +kernel)) ggX5_readsOrder_X5_digit
set_option maxRecDepth 20000 in
theorem ggX5_readsOrder_X5_wants : GoodIn wsX5_readsOrder wsX5_wants := goodIn_r _ [30, 2, 3, 5, 6, 7, 8, 9, 10, 11, 35, 36, 37, 38, 39, 40, 41, 42, 43, 44, 45, 46, 47, 48, 49, 50, 51, 52, 53, 54, 55, 56, 57] (by decide +kernel) (by decide +kernel)
set_option maxRecDepth 20000 in
theorem gX5_readsOrder_X5_wants : GoodIn wsX5_readsOrder (wsV RX5 207 RX5 yX5_wants wsX5_wants) := goodIn_app (goodIn_of _ (by decide +kernel)) ggX5_readsOrder_X5_wants
set_option maxRecDepth 20000 in
theorem ggX5_readsOrder_X5_number : GoodIn wsX5_readsOrder wsX5_number := goodIn_r _ [19, 2, 3, 20, 21, 22, 8, 23, 5, 6, 7, 9, 10, 11, 24, 25, 26, 35, 36, 37, 38, 39, 40, 41, 42, 43, 44, 45, 46, 47, 48, 49, 50, 51, 52, 53, 54, 55, 56, 57] (by decide +kernel) (by decide +kernel)
set_option maxRecDepth 20000 in
theorem gX5_readsOrder_X5_number : GoodIn wsX5_readsOrder (wsV RX5 204 RX5 yX5_number wsX5_number) := goodIn_app (goodIn_of _ (by decide +kernel)) ggX5_readsOrder_X5_number
theorem dX5_readsOrder_0 : decode cX5_readsOrder 0 = .ok (.bipush 7, 2) := by decide +kernel
theorem dX5_readsOrder_2 : decode cX5_readsOrder 2 = .ok (.aload_n 0, 1) := by decide +kernel
theorem dX5_readsOrder_3 : decode cX5_readsOrder 3 = .ok (.getfield 211, 3) := by decide +kernel
theorem dX5_readsOrder_6 : decode cX5_readsOrder 6 = .ok (.imul, 1) := by decide +kernel
theorem dX5_readsOrder_7 : decode cX5_readsOrder 7 = .ok (.istore_n 1, 1) := by decide +kernel
theorem dX5_readsOrder_8 : decode cX5_readsOrder 8 = .ok (.aload_n 0, 1) := by decide +kernel
theorem dX5_readsOrder_9 : decode cX5_readsOrder 9 = .ok (.invokevirtual 197, 3) := by decide +kernel
theorem dX5_readsOrder_12 : decode cX5_readsOrder 12 = .ok (.istore_n 2, 1) := by decide +kernel
theorem dX5_readsOrder_13 : decode cX5_readsOrder 13 = .ok (.aload_n 0, 1) := by decide +kernel
theorem dX5_readsOrder_14 : decode cX5_readsOrder 14 = .ok (.aload_n 0, 1) := by decide +kernel
theorem dX5_readsOrder_15 : decode cX5_readsOrder 15 = .ok (.getfield 193, 3) := by decide +kernel
theorem dX5_readsOrder_18 : decode cX5_readsOrder 18 = .ok (.ifCond .eq 31, 3) := by decide +kernel
theorem dX5_readsOrder_21 : decode cX5_readsOrder 21 = .ok (.iload_n 2, 1) := by decide +kernel
theorem dX5_readsOrder_22 : decode cX5_readsOrder 22 = .ok (.bipush 118, 2) := by decide +kernel
theorem dX5_readsOrder_24 : decode cX5_readsOrder 24 = .ok (.if_icmp .eq 21, 3) := by decide +kernel
theorem dX5_readsOrder_27 : decode cX5_readsOrder 27 = .ok (.iload_n 2, 1) := by decide +kernel
theorem dX5_readsOrder_28 : decode cX5_readsOrder 28 = .ok (.bipush 119, 2) := by decide +kernel
theorem dX5_readsOrder_30 : decode cX5_readsOrder 30 = .ok (.if_icmp .eq 15, 3) := by decide +kernel
theorem dX5_readsOrder_33 : decode cX5_readsOrder 33 = .ok (.iload_n 2, 1) := by decide +kernel
theorem dX5_readsOrder_34 : decode cX5_readsOrder 34 = .ok (.bipush 108, 2) := by decide +kernel
theorem dX5_readsOrder_36 : decode cX5_readsOrder 36 = .ok (.if_icmp .eq 9, 3) := by decide +kernel
theorem dX5_readsOrder_39 : decode cX5_readsOrder 39 = .ok (.iload_n 2, 1) := by decide +kernel
theorem dX5_readsOrder_40 : decode cX5_readsOrder 40 = .ok (.bipush 120, 2) := by decide +kernel
theorem dX5_readsOrder_42 : decode cX5_readsOrder 42 = .ok (.if_icmp .ne 7, 3) := by decide +kernel
theorem dX5_readsOrder_45 : decode cX5_readsOrder 45 = .ok (.iconst 1, 1) := by decide +kernel
theorem dX5_readsOrder_46 : decode cX5_readsOrder 46 = .ok (.goto 4, 3) := by decide +kernel
theorem dX5_readsOrder_49 : decode cX5_readsOrder 49 = .ok (.iconst 0, 1) := by decide +kernel
theorem dX5_readsOrder_50 : decode cX5_readsOrder 50 = .ok (.putfield 193, 3) := by decide +kernel
theorem dX5_readsOrder_53 : decode cX5_readsOrder 53 = .ok (.aload_n 0, 1) := by decide +kernel
theorem dX5_readsOrder_54 : decode cX5_readsOrder 54 = .ok (.dup, 1) := by decide +kernel
theorem dX5_readsOrder_55 : decode cX5_readsOrder 55 = .ok (.getfield 190, 3) := by decide +kernel
theorem dX5_readsOrder_58 : decode cX5_readsOrder 58 = .ok (.aload_n 0, 1) := by decide +kernel
theorem dX5_readsOrder_59 : decode cX5_readsOrder 59 = .ok (.getfield 193, 3) := by decide +kernel
theorem dX5_readsOrder_62 : decode cX5_readsOrder 62 = .ok (.ifCond .eq 7, 3) := by decide +kernel
theorem dX5_readsOrder_65 : decode cX5_readsOrder 65 = .ok (.iconst 1, 1) := by decide +kernel
theorem dX5_readsOrder_66 : decode cX5_readsOrder 66 = .ok (.goto 4, 3) := by decide +kernel
theorem dX5_readsOrder_69 : decode cX5_readsOrder 69 = .ok (.iconst 0, 1) := by decide +kernel
theorem dX5_readsOrder_70 : decode cX5_readsOrder 70 = .ok (.iadd, 1) := by decide +kernel
theorem dX5_readsOrder_71 : decode cX5_readsOrder 71 = .ok (.putfield 190, 3) := by decide +kernel
theorem dX5_readsOrder_74 : decode cX5_readsOrder 74 = .ok (.aload_n 0, 1) := by decide +kernel
theorem dX5_readsOrder_75 : decode cX5_readsOrder 75 = .ok (.getfield 59, 3) := by decide +kernel
theorem dX5_readsOrder_78 : decode cX5_readsOrder 78 = .ok (.iload_n 1, 1) := by decide +kernel
theorem dX5_readsOrder_79 : decode cX5_readsOrder 79 = .ok (.iload_n 2, 1) := by decide +kernel
theorem dX5_readsOrder_80 : decode cX5_readsOrder 80 = .ok (.iastore, 1) := by decide +kernel
theorem dX5_readsOrder_81 : decode cX5_readsOrder 81 = .ok (.iload_n 2, 1) := by decide +kernel
theorem dX5_readsOrder_82 : decode cX5_readsOrder 82 = .ok (.bipush 118, 2) := by decide +kernel
theorem dX5_readsOrder_84 : decode cX5_readsOrder 84 = .ok (.if_icmp .ne 11, 3) := by decide +kernel
theorem dX5_readsOrder_87 : decode cX5_readsOrder 87 = .ok (.aload_n 0, 1) := by decide +kernel
theorem dX5_readsOrder_88 : decode cX5_readsOrder 88 = .ok (.iload_n 1, 1) := by decide +kernel
theorem dX5_readsOrder_89 : decode cX5_readsOrder 89 = .ok (.invokevirtual 214, 3) := by decide +kernel
theorem dX5_readsOrder_92 : decode cX5_readsOrder 92 = .ok (.goto 90, 3) := by decide +kernel
theorem dX5_readsOrder_95 : decode cX5_readsOrder 95 = .ok (.iload_n 2, 1) := by decide +kernel
theorem dX5_readsOrder_96 : decode cX5_readsOrder 96 = .ok (.bipush 119, 2) := by decide +kernel
theorem dX5_readsOrder_98 : decode cX5_readsOrder 98 = .ok (.if_icmp .ne 11, 3) := by decide +kernel
theorem dX5_readsOrder_101 : decode cX5_readsOrder 101 = .ok (.aload_n 0, 1) := by decide +kernel
theorem dX5_readsOrder_102 : decode cX5_readsOrder 102 = .ok (.iload_n 1, 1) := by decide +kernel
theorem dX5_readsOrder_103 : decode cX5_readsOrder 103 = .ok (.invokevirtual 217, 3) := by decide +kernel
theorem dX5_readsOrder_106 : decode cX5_readsOrder 106 = .ok (.goto 76, 3) := by decide +kernel
theorem dX5_readsOrder_109 : decode cX5_readsOrder 109 = .ok (.iload_n 2, 1) := by decide +kernel
theorem dX5_readsOrder_110 : decode cX5_readsOrder 110 = .ok (.bipush 108, 2) := by decide +kernel
theorem dX5_readsOrder_112 : decode cX5_readsOrder 112 = .ok (.if_icmp .ne 58, 3) := by decide +kernel
theorem dX5_readsOrder_115 : decode cX5_readsOrder 115 = .ok (.aload_n 0, 1) := by decide +kernel
theorem dX5_readsOrder_116 : decode cX5_readsOrder 116 = .ok (.getfield 59, 3) := by decide +kernel
theorem dX5_readsOrder_119 : decode cX5_readsOrder 119 = .ok (.iload_n 1, 1) := by decide +kernel
theorem dX5_readsOrder_120 : decode cX5_readsOrder 120 = .ok (.iconst 1, 1) := by decide +kernel
theorem dX5_readsOrder_121 : decode cX5_readsOrder 121 = .ok (.iadd, 1) := by decide +kernel
theorem dX5_readsOrder_122 : decode cX5_readsOrder 122 = .ok (.aload_n 0, 1) := by decide +kernel
theorem dX5_readsOrder_123 : decode cX5_readsOrder 123 = .ok (.bipush 9, 2) := by decide +kernel
theorem dX5_readsOrder_125 : decode cX5_readsOrder 125 = .ok (.invokevirtual 201, 3) := by decide +kernel
theorem dX5_readsOrder_128 : decode cX5_readsOrder 128 = .ok (.iastore, 1) := by decide +kernel
theorem dX5_readsOrder_129 : decode cX5_readsOrder 129 = .ok (.aload_n 0, 1) := by decide +kernel
theorem dX5_readsOrder_130 : decode cX5_readsOrder 130 = .ok (.bipush 43, 2) := by decide +kernel
theorem dX5_readsOrder_132 : decode cX5_readsOrder 132 = .ok (.invokevirtual 207, 3) := by decide +kernel
theorem dX5_readsOrder_135 : decode cX5_readsOrder 135 = .ok (.aload_n 0, 1) := by decide +kernel
theorem dX5_readsOrder_136 : decode cX5_readsOrder 136 = .ok (.getfield 59, 3) := by decide +kernel
theorem dX5_readsOrder_139 : decode cX5_readsOrder 139 = .ok (.iload_n 1, 1) := by decide +kernel
theorem dX5_readsOrder_140 : decode cX5_readsOrder 140 = .ok (.iconst 2, 1) := by decide +kernel
theorem dX5_readsOrder_141 : decode cX5_readsOrder 141 = .ok (.iadd, 1) := by decide +kernel
theorem dX5_readsOrder_142 : decode cX5_readsOrder 142 = .ok (.aload_n 0, 1) := by decide +kernel
theorem dX5_readsOrder_143 : decode cX5_readsOrder 143 = .ok (.bipush 9, 2) := by decide +kernel
theorem dX5_readsOrder_145 : decode cX5_readsOrder 145 = .ok (.invokevirtual 201, 3) := by decide +kernel
theorem dX5_readsOrder_148 : decode cX5_readsOrder 148 = .ok (.iastore, 1) := by decide +kernel
theorem dX5_readsOrder_149 : decode cX5_readsOrder 149 = .ok (.aload_n 0, 1) := by decide +kernel
theorem dX5_readsOrder_150 : decode cX5_readsOrder 150 = .ok (.bipush 61, 2) := by decide +kernel
theorem dX5_readsOrder_152 : decode cX5_readsOrder 152 = .ok (.invokevirtual 207, 3) := by decide +kernel
theorem dX5_readsOrder_155 : decode cX5_readsOrder 155 = .ok (.aload_n 0, 1) := by decide +kernel
theorem dX5_readsOrder_156 : decode cX5_readsOrder 156 = .ok (.getfield 59, 3) := by decide +kernel
theorem dX5_readsOrder_159 : decode cX5_readsOrder 159 = .ok (.iload_n 1, 1) := by decide +kernel
theorem dX5_readsOrder_160 : decode cX5_readsOrder 160 = .ok (.iconst 3, 1) := by decide +kernel
theorem dX5_readsOrder_161 : decode cX5_readsOrder 161 = .ok (.iadd, 1) := by decide +kernel
theorem dX5_readsOrder_162 : decode cX5_readsOrder 162 = .ok (.aload_n 0, 1) := by decide +kernel
theorem dX5_readsOrder_163 : decode cX5_readsOrder 163 = .ok (.invokevirtual 204, 3) := by decide +kernel
theorem dX5_readsOrder_166 : decode cX5_readsOrder 166 = .ok (.iastore, 1) := by decide +kernel
theorem dX5_readsOrder_167 : decode cX5_readsOrder 167 = .ok (.goto 15, 3) := by decide +kernel
theorem dX5_readsOrder_170 : decode cX5_readsOrder 170 = .ok (.aload_n 0, 1) := by decide +kernel
theorem dX5_readsOrder_171 : decode cX5_readsOrder 171 = .ok (.getfield 59, 3) := by decide +kernel
theorem dX5_readsOrder_174 : decode cX5_readsOrder 174 = .ok (.iload_n 1, 1) := by decide +kernel
theorem dX5_readsOrder_175 : decode cX5_readsOrder 175 = .ok (.iconst 1, 1) := by decide +kernel
theorem dX5_readsOrder_176 : decode cX5_readsOrder 176 = .ok (.iadd, 1) := by decide +kernel
theorem dX5_readsOrder_177 : decode cX5_readsOrder 177 = .ok (.aload_n 0, 1) := by decide +kernel
theorem dX5_readsOrder_178 : decode cX5_readsOrder 178 = .ok (.invokevirtual 204, 3) := by decide +kernel
theorem dX5_readsOrder_181 : decode cX5_readsOrder 181 = .ok (.iastore, 1) := by decide +kernel
theorem dX5_readsOrder_182 : decode cX5_readsOrder 182 = .ok (.aload_n 0, 1) := by decide +kernel
theorem dX5_readsOrder_183 : decode cX5_readsOrder 183 = .ok (.dup, 1) := by decide +kernel
theorem dX5_readsOrder_184 : decode cX5_readsOrder 184 = .ok (.getfield 211, 3) := by decide +kernel
theorem dX5_readsOrder_187 : decode cX5_readsOrder 187 = .ok (.aload_n 0, 1) := by decide +kernel
theorem dX5_readsOrder_188 : decode cX5_readsOrder 188 = .ok (.getfield 193, 3) := by decide +kernel
theorem dX5_readsOrder_191 : decode cX5_readsOrder 191 = .ok (.ifCond .eq 7, 3) := by decide +kernel
theorem dX5_readsOrder_194 : decode cX5_readsOrder 194 = .ok (.iconst 1, 1) := by decide +kernel
theorem dX5_readsOrder_195 : decode cX5_readsOrder 195 = .ok (.goto 4, 3) := by decide +kernel
theorem dX5_readsOrder_198 : decode cX5_readsOrder 198 = .ok (.iconst 0, 1) := by decide +kernel
theorem dX5_readsOrder_199 : decode cX5_readsOrder 199 = .ok (.iadd, 1) := by decide +kernel
theorem dX5_readsOrder_200 : decode cX5_readsOrder 200 = .ok (.putfield 211, 3) := by decide +kernel
theorem dX5_readsOrder_203 : decode cX5_readsOrder 203 = .ok (.return_, 1) := by decide +kernel
set_option maxRecDepth 20000 in
theorem ggX5_reads_X5_readsOrder : GoodIn wsX5_reads wsX5_readsOrder := goodIn_r _ [9, 3, 2, 1, 10, 11, 12, 13, 8, 14, 4, 15, 16, 17, 18, 19, 20, 21, 22, 23, 24, 25, 26, 27, 28, 29, 30, 31, 32, 33, 34, 35, 36, 37, 38, 39, 40, 41, 42, 43, 44, 45, 46, 47, 48, 49, 50, 51, 52, 53, 54, 55, 56, 57, 58, 59, 60, 61] (by decide +kernel) (by decide +kernel)
set_option maxRecDepth 20000 in
theorem gX5_reads_X5_readsOrder : GoodIn wsX5_reads (wsV RX5 220 RX5 yX5_readsOrder wsX5_readsOrder) := goodIn_app (goodIn_of _ (by decide +kernel)) ggX5_reads_X5_readsOrder
set_option maxRecDepth 20000 in
theorem ggX5_reads_X5_wants : GoodIn wsX5_reads wsX5_wants := goodIn_r _ [34, 2, 1, 11, 12, 13, 8, 14, 4, 15, 39, 40, 41, 42, 43, 44, 45, 46, 47, 48, 49, 50, 51, 52, 53, 54, 55, 56, 57, 58, 59, 60, 61] (by decide +kernel) (by decide +kernel)
set_option maxRecDepth 20000 in
theorem gX5_reads_X5_wants : GoodIn wsX5_reads (wsV RX5 207 RX5 yX5_wants wsX5_wants) := goodIn_app (goodIn_of _ (by decide +kernel)) ggX5_reads_X5_wants
theorem dX5_reads_0 : decode cX5_reads 0 = .ok (.aload_n 0, 1) := by decide +kernel
theorem dX5_reads_1 : decode cX5_reads 1 = .ok (.iconst 0, 1) := by decide +kernel
theorem dX5_reads_2 : decode cX5_reads 2 = .ok (.putfield 190, 3) := by decide +kernel
theorem dX5_reads_5 : decode cX5_reads 5 = .ok (.aload_n 0, 1) := by decide +kernel
theorem dX5_reads_6 : decode cX5_reads 6 = .ok (.iconst 1, 1) := by decide +kernel
theorem dX5_reads_7 : decode cX5_reads 7 = .ok (.putfield 193, 3) := by decide +kernel
theorem dX5_reads_10 : decode cX5_reads 10 = .ok (.aload_n 0, 1) := by decide +kernel
theorem dX5_reads_11 : decode cX5_reads 11 = .ok (.iconst 0, 1) := by decide +kernel
theorem dX5_reads_12 : decode cX5_reads 12 = .ok (.putfield 211, 3) := by decide +kernel
theorem dX5_reads_15 : decode cX5_reads 15 = .ok (.aload_n 0, 1) := by decide +kernel
theorem dX5_reads_16 : decode cX5_reads 16 = .ok (.invokevirtual 220, 3) := by decide +kernel
theorem dX5_reads_19 : decode cX5_reads 19 = .ok (.aload_n 0, 1) := by decide +kernel
theorem dX5_reads_20 : decode cX5_reads 20 = .ok (.getfield 193, 3) := by decide +kernel
theorem dX5_reads_23 : decode cX5_reads 23 = .ok (.ifCond .eq 34, 3) := by decide +kernel
theorem dX5_reads_26 : decode cX5_reads 26 = .ok (.aload_n 0, 1) := by decide +kernel
theorem dX5_reads_27 : decode cX5_reads 27 = .ok (.getfield 190, 3) := by decide +kernel
theorem dX5_reads_30 : decode cX5_reads 30 = .ok (.aload_n 0, 1) := by decide +kernel
theorem dX5_reads_31 : decode cX5_reads 31 = .ok (.getfield 168, 3) := by decide +kernel
theorem dX5_reads_34 : decode cX5_reads 34 = .ok (.if_icmp .ge 23, 3) := by decide +kernel
theorem dX5_reads_37 : decode cX5_reads 37 = .ok (.aload_n 0, 1) := by decide +kernel
theorem dX5_reads_38 : decode cX5_reads 38 = .ok (.bipush 59, 2) := by decide +kernel
theorem dX5_reads_40 : decode cX5_reads 40 = .ok (.invokevirtual 207, 3) := by decide +kernel
theorem dX5_reads_43 : decode cX5_reads 43 = .ok (.aload_n 0, 1) := by decide +kernel
theorem dX5_reads_44 : decode cX5_reads 44 = .ok (.getfield 193, 3) := by decide +kernel
theorem dX5_reads_47 : decode cX5_reads 47 = .ok (.ifCond .eq (-28), 3) := by decide +kernel
theorem dX5_reads_50 : decode cX5_reads 50 = .ok (.aload_n 0, 1) := by decide +kernel
theorem dX5_reads_51 : decode cX5_reads 51 = .ok (.invokevirtual 220, 3) := by decide +kernel
theorem dX5_reads_54 : decode cX5_reads 54 = .ok (.goto (-35), 3) := by decide +kernel
theorem dX5_reads_57 : decode cX5_reads 57 = .ok (.aload_n 0, 1) := by decide +kernel
theorem dX5_reads_58 : decode cX5_reads 58 = .ok (.getfield 193, 3) := by decide +kernel
theorem dX5_reads_61 : decode cX5_reads 61 = .ok (.ifCond .eq 8, 3) := by decide +kernel
theorem dX5_reads_64 : decode cX5_reads 64 = .ok (.bipush (-6), 2) := by decide +kernel
theorem dX5_reads_66 : decode cX5_reads 66 = .ok (.goto 7, 3) := by decide +kernel
theorem dX5_reads_69 : decode cX5_reads 69 = .ok (.aload_n 0, 1) := by decide +kernel
theorem dX5_reads_70 : decode cX5_reads 70 = .ok (.getfield 190, 3) := by decide +kernel
theorem dX5_reads_73 : decode cX5_reads 73 = .ok (.ireturn, 1) := by decide +kernel
set_option maxRecDepth 20000 in
theorem ggX5_fault_X5_reads : GoodIn wsX5_fault wsX5_reads := goodIn_r _ [6, 7, 8, 9, 10, 11, 12, 13, 5, 14, 15, 16, 17, 18, 19, 20, 21, 22, 23, 24, 25, 26, 27, 28, 29, 30, 31, 32, 33, 34, 35, 36, 37, 38, 39, 40, 41, 42, 43, 44, 45, 46, 47, 48, 49, 50, 51, 52, 53, 54, 55, 56, 57, 58, 59, 60, 61, 62, 63, 64, 65, 66] (by decide +kernel) (by decide +kernel)
set_option maxRecDepth 20000 in
theorem gX5_fault_X5_reads : GoodIn wsX5_fault (wsV RX5 223 RX5 yX5_reads wsX5_reads) := goodIn_app (goodIn_of _ (by decide +kernel)) ggX5_fault_X5_reads
theorem dX5_fault_0 : decode cX5_fault 0 = .ok (.aload_n 0, 1) := by decide +kernel
theorem dX5_fault_1 : decode cX5_fault 1 = .ok (.iconst 0, 1) := by decide +kernel
theorem dX5_fault_2 : decode cX5_fault 2 = .ok (.putfield 62, 3) := by decide +kernel
theorem dX5_fault_5 : decode cX5_fault 5 = .ok (.aload_n 0, 1) := by decide +kernel
theorem dX5_fault_6 : decode cX5_fault 6 = .ok (.invokevirtual 223, 3) := by decide +kernel
theorem dX5_fault_9 : decode cX5_fault 9 = .ok (.ireturn, 1) := by decide +kernel
set_option maxRecDepth 20000 in
theorem ggX5_refusesOrder_X5_refusesVisit : GoodIn wsX5_refusesOrder wsX5_refusesVisit := goodIn_r _ [6, 7, 8, 9, 5, 10, 11, 12, 13, 30, 31, 32, 33, 34, 35, 36, 37, 38, 39, 40, 41, 42, 43, 44, 45, 46, 47, 48, 49, 50, 51, 52] (by decide +kernel) (by decide +kernel)
set_option maxRecDepth 20000 in
theorem gX5_refusesOrder_X5_refusesVisit : GoodIn wsX5_refusesOrder (wsV RX5 121 RX5 yX5_refusesVisit wsX5_refusesVisit) := goodIn_app (goodIn_of _ (by decide +kernel)) ggX5_refusesOrder_X5_refusesVisit
set_option maxRecDepth 20000 in
theorem ggX5_refusesOrder_X5_refusesVan : GoodIn wsX5_refusesOrder wsX5_refusesVan := goodIn_r _ [17, 7, 11, 12, 5, 13, 30, 31, 32, 33, 34, 35, 36, 37, 38, 39, 40, 41, 42, 43, 44, 45, 46, 47, 48, 49, 50, 51, 52] (by decide +kernel) (by decide +kernel)
set_option maxRecDepth 20000 in
theorem gX5_refusesOrder_X5_refusesVan : GoodIn wsX5_refusesOrder (wsV RX5 134 RX5 yX5_refusesVan wsX5_refusesVan) := goodIn_app (goodIn_of _ (by decide +kernel)) ggX5_refusesOrder_X5_refusesVan
set_option maxRecDepth 20000 in
theorem ggX5_refusesOrder_X5_refusesLoad : GoodIn wsX5_refusesOrder wsX5_refusesLoad := goodIn_r _ [21, 22, 23, 24, 5, 25, 7, 11, 12, 13, 30, 31, 32, 33, 34, 35, 36, 37, 38, 39, 40, 41, 42, 43, 44, 45, 46, 47, 48, 49, 50, 51, 52] (by decide +kernel) (by decide +kernel)
set_option maxRecDepth 20000 in
theorem gX5_refusesOrder_X5_refusesLoad : GoodIn wsX5_refusesOrder (wsV RX5 143 RX5 yX5_refusesLoad wsX5_refusesLoad) := goodIn_app (goodIn_of _ (by decide +kernel)) ggX5_refusesOrder_X5_refusesLoad
set_option maxRecDepth 20000 in
theorem ggX5_refusesOrder_X5_isVisit : GoodIn wsX5_refusesOrder wsX5_isVisit := goodIn_r _ [29, 7, 11, 12, 5, 13, 30, 31, 32, 33, 34, 35, 36, 37, 38, 39, 40, 41, 42, 43, 44, 45, 46, 47, 48, 49, 50, 51, 52] (by decide +kernel) (by decide +kernel)
set_option maxRecDepth 20000 in
theorem gX5_refusesOrder_X5_isVisit : GoodIn wsX5_refusesOrder (wsV RX5 127 RX5 yX5_isVisit wsX5_isVisit) := goodIn_app (goodIn_of _ (by decide +kernel)) ggX5_refusesOrder_X5_isVisit
theorem dX5_refusesOrder_0 : decode cX5_refusesOrder 0 = .ok (.aload_n 0, 1) := by decide +kernel
theorem dX5_refusesOrder_1 : decode cX5_refusesOrder 1 = .ok (.getfield 59, 3) := by decide +kernel
theorem dX5_refusesOrder_4 : decode cX5_refusesOrder 4 = .ok (.iload_n 1, 1) := by decide +kernel
theorem dX5_refusesOrder_5 : decode cX5_refusesOrder 5 = .ok (.iaload, 1) := by decide +kernel
theorem dX5_refusesOrder_6 : decode cX5_refusesOrder 6 = .ok (.lookupswitch 138 #[(108, 109), (118, 34), (119, 88)], 34) := by decide +kernel
theorem dX5_refusesOrder_40 : decode cX5_refusesOrder 40 = .ok (.aload_n 0, 1) := by decide +kernel
theorem dX5_refusesOrder_41 : decode cX5_refusesOrder 41 = .ok (.aload_n 0, 1) := by decide +kernel
theorem dX5_refusesOrder_42 : decode cX5_refusesOrder 42 = .ok (.getfield 59, 3) := by decide +kernel
theorem dX5_refusesOrder_45 : decode cX5_refusesOrder 45 = .ok (.iload_n 1, 1) := by decide +kernel
theorem dX5_refusesOrder_46 : decode cX5_refusesOrder 46 = .ok (.iconst 1, 1) := by decide +kernel
theorem dX5_refusesOrder_47 : decode cX5_refusesOrder 47 = .ok (.iadd, 1) := by decide +kernel
theorem dX5_refusesOrder_48 : decode cX5_refusesOrder 48 = .ok (.iaload, 1) := by decide +kernel
theorem dX5_refusesOrder_49 : decode cX5_refusesOrder 49 = .ok (.aload_n 0, 1) := by decide +kernel
theorem dX5_refusesOrder_50 : decode cX5_refusesOrder 50 = .ok (.getfield 59, 3) := by decide +kernel
theorem dX5_refusesOrder_53 : decode cX5_refusesOrder 53 = .ok (.iload_n 1, 1) := by decide +kernel
theorem dX5_refusesOrder_54 : decode cX5_refusesOrder 54 = .ok (.iconst 2, 1) := by decide +kernel
theorem dX5_refusesOrder_55 : decode cX5_refusesOrder 55 = .ok (.iadd, 1) := by decide +kernel
theorem dX5_refusesOrder_56 : decode cX5_refusesOrder 56 = .ok (.iaload, 1) := by decide +kernel
theorem dX5_refusesOrder_57 : decode cX5_refusesOrder 57 = .ok (.aload_n 0, 1) := by decide +kernel
theorem dX5_refusesOrder_58 : decode cX5_refusesOrder 58 = .ok (.getfield 59, 3) := by decide +kernel
theorem dX5_refusesOrder_61 : decode cX5_refusesOrder 61 = .ok (.iload_n 1, 1) := by decide +kernel
theorem dX5_refusesOrder_62 : decode cX5_refusesOrder 62 = .ok (.iconst 3, 1) := by decide +kernel
theorem dX5_refusesOrder_63 : decode cX5_refusesOrder 63 = .ok (.iadd, 1) := by decide +kernel
theorem dX5_refusesOrder_64 : decode cX5_refusesOrder 64 = .ok (.iaload, 1) := by decide +kernel
theorem dX5_refusesOrder_65 : decode cX5_refusesOrder 65 = .ok (.aload_n 0, 1) := by decide +kernel
theorem dX5_refusesOrder_66 : decode cX5_refusesOrder 66 = .ok (.getfield 59, 3) := by decide +kernel
theorem dX5_refusesOrder_69 : decode cX5_refusesOrder 69 = .ok (.iload_n 1, 1) := by decide +kernel
theorem dX5_refusesOrder_70 : decode cX5_refusesOrder 70 = .ok (.iconst 4, 1) := by decide +kernel
theorem dX5_refusesOrder_71 : decode cX5_refusesOrder 71 = .ok (.iadd, 1) := by decide +kernel
theorem dX5_refusesOrder_72 : decode cX5_refusesOrder 72 = .ok (.iaload, 1) := by decide +kernel
theorem dX5_refusesOrder_73 : decode cX5_refusesOrder 73 = .ok (.aload_n 0, 1) := by decide +kernel
theorem dX5_refusesOrder_74 : decode cX5_refusesOrder 74 = .ok (.getfield 59, 3) := by decide +kernel
theorem dX5_refusesOrder_77 : decode cX5_refusesOrder 77 = .ok (.iload_n 1, 1) := by decide +kernel
theorem dX5_refusesOrder_78 : decode cX5_refusesOrder 78 = .ok (.iconst 5, 1) := by decide +kernel
theorem dX5_refusesOrder_79 : decode cX5_refusesOrder 79 = .ok (.iadd, 1) := by decide +kernel
theorem dX5_refusesOrder_80 : decode cX5_refusesOrder 80 = .ok (.iaload, 1) := by decide +kernel
theorem dX5_refusesOrder_81 : decode cX5_refusesOrder 81 = .ok (.aload_n 0, 1) := by decide +kernel
theorem dX5_refusesOrder_82 : decode cX5_refusesOrder 82 = .ok (.getfield 59, 3) := by decide +kernel
theorem dX5_refusesOrder_85 : decode cX5_refusesOrder 85 = .ok (.iload_n 1, 1) := by decide +kernel
theorem dX5_refusesOrder_86 : decode cX5_refusesOrder 86 = .ok (.bipush 6, 2) := by decide +kernel
theorem dX5_refusesOrder_88 : decode cX5_refusesOrder 88 = .ok (.iadd, 1) := by decide +kernel
theorem dX5_refusesOrder_89 : decode cX5_refusesOrder 89 = .ok (.iaload, 1) := by decide +kernel
theorem dX5_refusesOrder_90 : decode cX5_refusesOrder 90 = .ok (.invokevirtual 121, 3) := by decide +kernel
theorem dX5_refusesOrder_93 : decode cX5_refusesOrder 93 = .ok (.ireturn, 1) := by decide +kernel
theorem dX5_refusesOrder_94 : decode cX5_refusesOrder 94 = .ok (.aload_n 0, 1) := by decide +kernel
theorem dX5_refusesOrder_95 : decode cX5_refusesOrder 95 = .ok (.aload_n 0, 1) := by decide +kernel
theorem dX5_refusesOrder_96 : decode cX5_refusesOrder 96 = .ok (.getfield 59, 3) := by decide +kernel
theorem dX5_refusesOrder_99 : decode cX5_refusesOrder 99 = .ok (.iload_n 1, 1) := by decide +kernel
theorem dX5_refusesOrder_100 : decode cX5_refusesOrder 100 = .ok (.iconst 1, 1) := by decide +kernel
theorem dX5_refusesOrder_101 : decode cX5_refusesOrder 101 = .ok (.iadd, 1) := by decide +kernel
theorem dX5_refusesOrder_102 : decode cX5_refusesOrder 102 = .ok (.iaload, 1) := by decide +kernel
theorem dX5_refusesOrder_103 : decode cX5_refusesOrder 103 = .ok (.aload_n 0, 1) := by decide +kernel
theorem dX5_refusesOrder_104 : decode cX5_refusesOrder 104 = .ok (.getfield 59, 3) := by decide +kernel
theorem dX5_refusesOrder_107 : decode cX5_refusesOrder 107 = .ok (.iload_n 1, 1) := by decide +kernel
theorem dX5_refusesOrder_108 : decode cX5_refusesOrder 108 = .ok (.iconst 2, 1) := by decide +kernel
theorem dX5_refusesOrder_109 : decode cX5_refusesOrder 109 = .ok (.iadd, 1) := by decide +kernel
theorem dX5_refusesOrder_110 : decode cX5_refusesOrder 110 = .ok (.iaload, 1) := by decide +kernel
theorem dX5_refusesOrder_111 : decode cX5_refusesOrder 111 = .ok (.invokevirtual 134, 3) := by decide +kernel
theorem dX5_refusesOrder_114 : decode cX5_refusesOrder 114 = .ok (.ireturn, 1) := by decide +kernel
theorem dX5_refusesOrder_115 : decode cX5_refusesOrder 115 = .ok (.aload_n 0, 1) := by decide +kernel
theorem dX5_refusesOrder_116 : decode cX5_refusesOrder 116 = .ok (.aload_n 0, 1) := by decide +kernel
theorem dX5_refusesOrder_117 : decode cX5_refusesOrder 117 = .ok (.getfield 59, 3) := by decide +kernel
theorem dX5_refusesOrder_120 : decode cX5_refusesOrder 120 = .ok (.iload_n 1, 1) := by decide +kernel
theorem dX5_refusesOrder_121 : decode cX5_refusesOrder 121 = .ok (.iconst 1, 1) := by decide +kernel
theorem dX5_refusesOrder_122 : decode cX5_refusesOrder 122 = .ok (.iadd, 1) := by decide +kernel
theorem dX5_refusesOrder_123 : decode cX5_refusesOrder 123 = .ok (.iaload, 1) := by decide +kernel
theorem dX5_refusesOrder_124 : decode cX5_refusesOrder 124 = .ok (.aload_n 0, 1) := by decide +kernel
theorem dX5_refusesOrder_125 : decode cX5_refusesOrder 125 = .ok (.getfield 59, 3) := by decide +kernel
theorem dX5_refusesOrder_128 : decode cX5_refusesOrder 128 = .ok (.iload_n 1, 1) := by decide +kernel
theorem dX5_refusesOrder_129 : decode cX5_refusesOrder 129 = .ok (.iconst 2, 1) := by decide +kernel
theorem dX5_refusesOrder_130 : decode cX5_refusesOrder 130 = .ok (.iadd, 1) := by decide +kernel
theorem dX5_refusesOrder_131 : decode cX5_refusesOrder 131 = .ok (.iaload, 1) := by decide +kernel
theorem dX5_refusesOrder_132 : decode cX5_refusesOrder 132 = .ok (.aload_n 0, 1) := by decide +kernel
theorem dX5_refusesOrder_133 : decode cX5_refusesOrder 133 = .ok (.getfield 59, 3) := by decide +kernel
theorem dX5_refusesOrder_136 : decode cX5_refusesOrder 136 = .ok (.iload_n 1, 1) := by decide +kernel
theorem dX5_refusesOrder_137 : decode cX5_refusesOrder 137 = .ok (.iconst 3, 1) := by decide +kernel
theorem dX5_refusesOrder_138 : decode cX5_refusesOrder 138 = .ok (.iadd, 1) := by decide +kernel
theorem dX5_refusesOrder_139 : decode cX5_refusesOrder 139 = .ok (.iaload, 1) := by decide +kernel
theorem dX5_refusesOrder_140 : decode cX5_refusesOrder 140 = .ok (.invokevirtual 143, 3) := by decide +kernel
theorem dX5_refusesOrder_143 : decode cX5_refusesOrder 143 = .ok (.ireturn, 1) := by decide +kernel
theorem dX5_refusesOrder_144 : decode cX5_refusesOrder 144 = .ok (.aload_n 0, 1) := by decide +kernel
theorem dX5_refusesOrder_145 : decode cX5_refusesOrder 145 = .ok (.aload_n 0, 1) := by decide +kernel
theorem dX5_refusesOrder_146 : decode cX5_refusesOrder 146 = .ok (.getfield 59, 3) := by decide +kernel
theorem dX5_refusesOrder_149 : decode cX5_refusesOrder 149 = .ok (.iload_n 1, 1) := by decide +kernel
theorem dX5_refusesOrder_150 : decode cX5_refusesOrder 150 = .ok (.iconst 1, 1) := by decide +kernel
theorem dX5_refusesOrder_151 : decode cX5_refusesOrder 151 = .ok (.iadd, 1) := by decide +kernel
theorem dX5_refusesOrder_152 : decode cX5_refusesOrder 152 = .ok (.iaload, 1) := by decide +kernel
theorem dX5_refusesOrder_153 : decode cX5_refusesOrder 153 = .ok (.invokevirtual 127, 3) := by decide +kernel
theorem dX5_refusesOrder_156 : decode cX5_refusesOrder 156 = .ok (.ifCond .eq 7, 3) := by decide +kernel
theorem dX5_refusesOrder_159 : decode cX5_refusesOrder 159 = .ok (.iconst 0, 1) := by decide +kernel
theorem dX5_refusesOrder_160 : decode cX5_refusesOrder 160 = .ok (.goto 4, 3) := by decide +kernel
theorem dX5_refusesOrder_163 : decode cX5_refusesOrder 163 = .ok (.iconst (-1), 1) := by decide +kernel
theorem dX5_refusesOrder_164 : decode cX5_refusesOrder 164 = .ok (.ireturn, 1) := by decide +kernel
set_option maxRecDepth 20000 in
theorem ggX5_does_X5_laysVisit : GoodIn wsX5_does wsX5_laysVisit := goodIn_r _ [7, 2, 16, 17, 18, 19, 20, 21, 22, 23, 24, 25, 26, 27, 28, 29, 30, 31, 32, 33, 34, 35, 36, 37, 38] (by decide +kernel) (by decide +kernel)
set_option maxRecDepth 20000 in
theorem gX5_does_X5_laysVisit : GoodIn wsX5_does (wsV RX5 124 RX5 yX5_laysVisit wsX5_laysVisit) := goodIn_app (goodIn_of _ (by decide +kernel)) ggX5_does_X5_laysVisit
set_option maxRecDepth 20000 in
theorem ggX5_does_X5_laysVan : GoodIn wsX5_does wsX5_laysVan := goodIn_r _ [11, 2, 16, 17, 18, 19, 20, 21, 22, 23, 24, 25, 26, 27, 28, 29, 30, 31, 32, 33, 34, 35, 36, 37, 38] (by decide +kernel) (by decide +kernel)
set_option maxRecDepth 20000 in
theorem gX5_does_X5_laysVan : GoodIn wsX5_does (wsV RX5 137 RX5 yX5_laysVan wsX5_laysVan) := goodIn_app (goodIn_of _ (by decide +kernel)) ggX5_does_X5_laysVan
set_option maxRecDepth 20000 in
theorem ggX5_does_X5_dropsVisit : GoodIn wsX5_does wsX5_dropsVisit := goodIn_r _ [15, 2, 16, 17, 18, 19, 20, 21, 22, 23, 24, 25, 26, 27, 28, 29, 30, 31, 32, 33, 34, 35, 36, 37, 38] (by decide +kernel) (by decide +kernel)
set_option maxRecDepth 20000 in
theorem gX5_does_X5_dropsVisit : GoodIn wsX5_does (wsV RX5 131 RX5 yX5_dropsVisit wsX5_dropsVisit) := goodIn_app (goodIn_of _ (by decide +kernel)) ggX5_does_X5_dropsVisit
theorem dX5_does_0 : decode cX5_does 0 = .ok (.aload_n 0, 1) := by decide +kernel
theorem dX5_does_1 : decode cX5_does 1 = .ok (.getfield 59, 3) := by decide +kernel
theorem dX5_does_4 : decode cX5_does 4 = .ok (.iload_n 1, 1) := by decide +kernel
theorem dX5_does_5 : decode cX5_does 5 = .ok (.iaload, 1) := by decide +kernel
theorem dX5_does_6 : decode cX5_does 6 = .ok (.lookupswitch 156 #[(108, 116), (118, 34), (119, 91)], 34) := by decide +kernel
theorem dX5_does_40 : decode cX5_does 40 = .ok (.aload_n 0, 1) := by decide +kernel
theorem dX5_does_41 : decode cX5_does 41 = .ok (.aload_n 0, 1) := by decide +kernel
theorem dX5_does_42 : decode cX5_does 42 = .ok (.getfield 59, 3) := by decide +kernel
theorem dX5_does_45 : decode cX5_does 45 = .ok (.iload_n 1, 1) := by decide +kernel
theorem dX5_does_46 : decode cX5_does 46 = .ok (.iconst 1, 1) := by decide +kernel
theorem dX5_does_47 : decode cX5_does 47 = .ok (.iadd, 1) := by decide +kernel
theorem dX5_does_48 : decode cX5_does 48 = .ok (.iaload, 1) := by decide +kernel
theorem dX5_does_49 : decode cX5_does 49 = .ok (.aload_n 0, 1) := by decide +kernel
theorem dX5_does_50 : decode cX5_does 50 = .ok (.getfield 59, 3) := by decide +kernel
theorem dX5_does_53 : decode cX5_does 53 = .ok (.iload_n 1, 1) := by decide +kernel
theorem dX5_does_54 : decode cX5_does 54 = .ok (.iconst 2, 1) := by decide +kernel
theorem dX5_does_55 : decode cX5_does 55 = .ok (.iadd, 1) := by decide +kernel
theorem dX5_does_56 : decode cX5_does 56 = .ok (.iaload, 1) := by decide +kernel
theorem dX5_does_57 : decode cX5_does 57 = .ok (.aload_n 0, 1) := by decide +kernel
theorem dX5_does_58 : decode cX5_does 58 = .ok (.getfield 59, 3) := by decide +kernel
theorem dX5_does_61 : decode cX5_does 61 = .ok (.iload_n 1, 1) := by decide +kernel
theorem dX5_does_62 : decode cX5_does 62 = .ok (.iconst 3, 1) := by decide +kernel
theorem dX5_does_63 : decode cX5_does 63 = .ok (.iadd, 1) := by decide +kernel
theorem dX5_does_64 : decode cX5_does 64 = .ok (.iaload, 1) := by decide +kernel
theorem dX5_does_65 : decode cX5_does 65 = .ok (.aload_n 0, 1) := by decide +kernel
theorem dX5_does_66 : decode cX5_does 66 = .ok (.getfield 59, 3) := by decide +kernel
theorem dX5_does_69 : decode cX5_does 69 = .ok (.iload_n 1, 1) := by decide +kernel
theorem dX5_does_70 : decode cX5_does 70 = .ok (.iconst 4, 1) := by decide +kernel
theorem dX5_does_71 : decode cX5_does 71 = .ok (.iadd, 1) := by decide +kernel
theorem dX5_does_72 : decode cX5_does 72 = .ok (.iaload, 1) := by decide +kernel
theorem dX5_does_73 : decode cX5_does 73 = .ok (.aload_n 0, 1) := by decide +kernel
theorem dX5_does_74 : decode cX5_does 74 = .ok (.getfield 59, 3) := by decide +kernel
theorem dX5_does_77 : decode cX5_does 77 = .ok (.iload_n 1, 1) := by decide +kernel
theorem dX5_does_78 : decode cX5_does 78 = .ok (.iconst 5, 1) := by decide +kernel
theorem dX5_does_79 : decode cX5_does 79 = .ok (.iadd, 1) := by decide +kernel
theorem dX5_does_80 : decode cX5_does 80 = .ok (.iaload, 1) := by decide +kernel
theorem dX5_does_81 : decode cX5_does 81 = .ok (.aload_n 0, 1) := by decide +kernel
theorem dX5_does_82 : decode cX5_does 82 = .ok (.getfield 59, 3) := by decide +kernel
theorem dX5_does_85 : decode cX5_does 85 = .ok (.iload_n 1, 1) := by decide +kernel
theorem dX5_does_86 : decode cX5_does 86 = .ok (.bipush 6, 2) := by decide +kernel
theorem dX5_does_88 : decode cX5_does 88 = .ok (.iadd, 1) := by decide +kernel
theorem dX5_does_89 : decode cX5_does 89 = .ok (.iaload, 1) := by decide +kernel
theorem dX5_does_90 : decode cX5_does 90 = .ok (.invokevirtual 124, 3) := by decide +kernel
theorem dX5_does_93 : decode cX5_does 93 = .ok (.pop, 1) := by decide +kernel
theorem dX5_does_94 : decode cX5_does 94 = .ok (.goto 81, 3) := by decide +kernel
theorem dX5_does_97 : decode cX5_does 97 = .ok (.aload_n 0, 1) := by decide +kernel
theorem dX5_does_98 : decode cX5_does 98 = .ok (.aload_n 0, 1) := by decide +kernel
theorem dX5_does_99 : decode cX5_does 99 = .ok (.getfield 59, 3) := by decide +kernel
theorem dX5_does_102 : decode cX5_does 102 = .ok (.iload_n 1, 1) := by decide +kernel
theorem dX5_does_103 : decode cX5_does 103 = .ok (.iconst 1, 1) := by decide +kernel
theorem dX5_does_104 : decode cX5_does 104 = .ok (.iadd, 1) := by decide +kernel
theorem dX5_does_105 : decode cX5_does 105 = .ok (.iaload, 1) := by decide +kernel
theorem dX5_does_106 : decode cX5_does 106 = .ok (.aload_n 0, 1) := by decide +kernel
theorem dX5_does_107 : decode cX5_does 107 = .ok (.getfield 59, 3) := by decide +kernel
theorem dX5_does_110 : decode cX5_does 110 = .ok (.iload_n 1, 1) := by decide +kernel
theorem dX5_does_111 : decode cX5_does 111 = .ok (.iconst 2, 1) := by decide +kernel
theorem dX5_does_112 : decode cX5_does 112 = .ok (.iadd, 1) := by decide +kernel
theorem dX5_does_113 : decode cX5_does 113 = .ok (.iaload, 1) := by decide +kernel
theorem dX5_does_114 : decode cX5_does 114 = .ok (.iconst 0, 1) := by decide +kernel
theorem dX5_does_115 : decode cX5_does 115 = .ok (.invokevirtual 137, 3) := by decide +kernel
theorem dX5_does_118 : decode cX5_does 118 = .ok (.pop, 1) := by decide +kernel
theorem dX5_does_119 : decode cX5_does 119 = .ok (.goto 56, 3) := by decide +kernel
theorem dX5_does_122 : decode cX5_does 122 = .ok (.aload_n 0, 1) := by decide +kernel
theorem dX5_does_123 : decode cX5_does 123 = .ok (.getfield 7, 3) := by decide +kernel
theorem dX5_does_126 : decode cX5_does 126 = .ok (.iconst 5, 1) := by decide +kernel
theorem dX5_does_127 : decode cX5_does 127 = .ok (.bipush 7, 2) := by decide +kernel
theorem dX5_does_129 : decode cX5_does 129 = .ok (.aload_n 0, 1) := by decide +kernel
theorem dX5_does_130 : decode cX5_does 130 = .ok (.getfield 59, 3) := by decide +kernel
theorem dX5_does_133 : decode cX5_does 133 = .ok (.iload_n 1, 1) := by decide +kernel
theorem dX5_does_134 : decode cX5_does 134 = .ok (.iconst 1, 1) := by decide +kernel
theorem dX5_does_135 : decode cX5_does 135 = .ok (.iadd, 1) := by decide +kernel
theorem dX5_does_136 : decode cX5_does 136 = .ok (.iaload, 1) := by decide +kernel
theorem dX5_does_137 : decode cX5_does 137 = .ok (.imul, 1) := by decide +kernel
theorem dX5_does_138 : decode cX5_does 138 = .ok (.iadd, 1) := by decide +kernel
theorem dX5_does_139 : decode cX5_does 139 = .ok (.iconst 2, 1) := by decide +kernel
theorem dX5_does_140 : decode cX5_does 140 = .ok (.iadd, 1) := by decide +kernel
theorem dX5_does_141 : decode cX5_does 141 = .ok (.aload_n 0, 1) := by decide +kernel
theorem dX5_does_142 : decode cX5_does 142 = .ok (.getfield 59, 3) := by decide +kernel
theorem dX5_does_145 : decode cX5_does 145 = .ok (.iload_n 1, 1) := by decide +kernel
theorem dX5_does_146 : decode cX5_does 146 = .ok (.iconst 2, 1) := by decide +kernel
theorem dX5_does_147 : decode cX5_does 147 = .ok (.iadd, 1) := by decide +kernel
theorem dX5_does_148 : decode cX5_does 148 = .ok (.iaload, 1) := by decide +kernel
theorem dX5_does_149 : decode cX5_does 149 = .ok (.iadd, 1) := by decide +kernel
theorem dX5_does_150 : decode cX5_does 150 = .ok (.aload_n 0, 1) := by decide +kernel
theorem dX5_does_151 : decode cX5_does 151 = .ok (.getfield 59, 3) := by decide +kernel
theorem dX5_does_154 : decode cX5_does 154 = .ok (.iload_n 1, 1) := by decide +kernel
theorem dX5_does_155 : decode cX5_does 155 = .ok (.iconst 3, 1) := by decide +kernel
theorem dX5_does_156 : decode cX5_does 156 = .ok (.iadd, 1) := by decide +kernel
theorem dX5_does_157 : decode cX5_does 157 = .ok (.iaload, 1) := by decide +kernel
theorem dX5_does_158 : decode cX5_does 158 = .ok (.iastore, 1) := by decide +kernel
theorem dX5_does_159 : decode cX5_does 159 = .ok (.goto 16, 3) := by decide +kernel
theorem dX5_does_162 : decode cX5_does 162 = .ok (.aload_n 0, 1) := by decide +kernel
theorem dX5_does_163 : decode cX5_does 163 = .ok (.aload_n 0, 1) := by decide +kernel
theorem dX5_does_164 : decode cX5_does 164 = .ok (.getfield 59, 3) := by decide +kernel
theorem dX5_does_167 : decode cX5_does 167 = .ok (.iload_n 1, 1) := by decide +kernel
theorem dX5_does_168 : decode cX5_does 168 = .ok (.iconst 1, 1) := by decide +kernel
theorem dX5_does_169 : decode cX5_does 169 = .ok (.iadd, 1) := by decide +kernel
theorem dX5_does_170 : decode cX5_does 170 = .ok (.iaload, 1) := by decide +kernel
theorem dX5_does_171 : decode cX5_does 171 = .ok (.invokevirtual 131, 3) := by decide +kernel
theorem dX5_does_174 : decode cX5_does 174 = .ok (.pop, 1) := by decide +kernel
theorem dX5_does_175 : decode cX5_does 175 = .ok (.return_, 1) := by decide +kernel
set_option maxRecDepth 20000 in
theorem ggX5_carryOut_X5_reads : GoodIn wsX5_carryOut wsX5_reads := goodIn_r _ [8, 9, 10, 3, 2, 11, 12, 13, 7, 14, 15, 16, 17, 18, 19, 20, 21, 22, 23, 24, 25, 26, 27, 28, 29, 30, 31, 32, 33, 34, 35, 36, 37, 38, 39, 40, 41, 42, 43, 94, 95, 96, 97, 98, 99, 100, 101, 102, 103, 104, 105, 106, 107, 108, 109, 110, 111, 112, 113, 114, 115, 116] (by decide +kernel) (by decide +kernel)
set_option maxRecDepth 20000 in
theorem gX5_carryOut_X5_reads : GoodIn wsX5_carryOut (wsV RX5 223 RX5 yX5_reads wsX5_reads) := goodIn_app (goodIn_of _ (by decide +kernel)) ggX5_carryOut_X5_reads
set_option maxRecDepth 20000 in
theorem ggX5_carryOut_X5_records : GoodIn wsX5_carryOut wsX5_records := goodIn_r _ [47, 48, 49, 50, 94, 95, 96, 97, 98, 99, 100, 101, 102, 103, 104, 105, 106, 107, 108, 109, 110, 111, 112, 113, 114, 115, 116] (by decide +kernel) (by decide +kernel)
set_option maxRecDepth 20000 in
theorem gX5_carryOut_X5_records : GoodIn wsX5_carryOut (wsV RX5 114 RX5 yX5_records wsX5_records) := goodIn_app (goodIn_of _ (by decide +kernel)) ggX5_carryOut_X5_records
set_option maxRecDepth 20000 in
theorem ggX5_carryOut_X5_refusesOrder : GoodIn wsX5_carryOut wsX5_refusesOrder := goodIn_r _ [54, 15, 55, 56, 57, 7, 58, 50, 59, 60, 61, 33, 34, 35, 62, 63, 64, 65, 66, 67, 68, 69, 70, 71, 72, 73, 74, 75, 76, 77, 94, 95, 96, 97, 98, 99, 100, 101, 102, 103, 104, 105, 106, 107, 108, 109, 110, 111, 112, 113, 114, 115, 116] (by decide +kernel) (by decide +kernel)
set_option maxRecDepth 20000 in
theorem gX5_carryOut_X5_refusesOrder : GoodIn wsX5_carryOut (wsV RX5 226 RX5 yX5_refusesOrder wsX5_refusesOrder) := goodIn_app (goodIn_of _ (by decide +kernel)) ggX5_carryOut_X5_refusesOrder
set_option maxRecDepth 20000 in
theorem ggX5_carryOut_X5_does : GoodIn wsX5_carryOut wsX5_does := goodIn_r _ [81, 15, 50, 82, 83, 84, 7, 85, 86, 87, 88, 89, 90, 91, 92, 93, 94, 95, 96, 97, 98, 99, 100, 101, 102, 103, 104, 105, 106, 107, 108, 109, 110, 111, 112, 113, 114, 115, 116] (by decide +kernel) (by decide +kernel)
set_option maxRecDepth 20000 in
theorem gX5_carryOut_X5_does : GoodIn wsX5_carryOut (wsV RX5 229 RX5 yX5_does wsX5_does) := goodIn_app (goodIn_of _ (by decide +kernel)) ggX5_carryOut_X5_does
theorem dX5_carryOut_0 : decode cX5_carryOut 0 = .ok (.aload_n 0, 1) := by decide +kernel
theorem dX5_carryOut_1 : decode cX5_carryOut 1 = .ok (.iconst 0, 1) := by decide +kernel
theorem dX5_carryOut_2 : decode cX5_carryOut 2 = .ok (.putfield 62, 3) := by decide +kernel
theorem dX5_carryOut_5 : decode cX5_carryOut 5 = .ok (.aload_n 0, 1) := by decide +kernel
theorem dX5_carryOut_6 : decode cX5_carryOut 6 = .ok (.invokevirtual 223, 3) := by decide +kernel
theorem dX5_carryOut_9 : decode cX5_carryOut 9 = .ok (.bipush (-6), 2) := by decide +kernel
theorem dX5_carryOut_11 : decode cX5_carryOut 11 = .ok (.if_icmp .eq 6, 3) := by decide +kernel
theorem dX5_carryOut_14 : decode cX5_carryOut 14 = .ok (.bipush (-3), 2) := by decide +kernel
theorem dX5_carryOut_16 : decode cX5_carryOut 16 = .ok (.ireturn, 1) := by decide +kernel
theorem dX5_carryOut_17 : decode cX5_carryOut 17 = .ok (.aload_n 0, 1) := by decide +kernel
theorem dX5_carryOut_18 : decode cX5_carryOut 18 = .ok (.invokevirtual 114, 3) := by decide +kernel
theorem dX5_carryOut_21 : decode cX5_carryOut 21 = .ok (.aload_n 0, 1) := by decide +kernel
theorem dX5_carryOut_22 : decode cX5_carryOut 22 = .ok (.iconst 0, 1) := by decide +kernel
theorem dX5_carryOut_23 : decode cX5_carryOut 23 = .ok (.putfield 168, 3) := by decide +kernel
theorem dX5_carryOut_26 : decode cX5_carryOut 26 = .ok (.iconst 0, 1) := by decide +kernel
theorem dX5_carryOut_27 : decode cX5_carryOut 27 = .ok (.istore_n 1, 1) := by decide +kernel
theorem dX5_carryOut_28 : decode cX5_carryOut 28 = .ok (.iload_n 1, 1) := by decide +kernel
theorem dX5_carryOut_29 : decode cX5_carryOut 29 = .ok (.aload_n 0, 1) := by decide +kernel
theorem dX5_carryOut_30 : decode cX5_carryOut 30 = .ok (.getfield 211, 3) := by decide +kernel
theorem dX5_carryOut_33 : decode cX5_carryOut 33 = .ok (.if_icmp .ge 30, 3) := by decide +kernel
theorem dX5_carryOut_36 : decode cX5_carryOut 36 = .ok (.aload_n 0, 1) := by decide +kernel
theorem dX5_carryOut_37 : decode cX5_carryOut 37 = .ok (.bipush 7, 2) := by decide +kernel
theorem dX5_carryOut_39 : decode cX5_carryOut 39 = .ok (.iload_n 1, 1) := by decide +kernel
theorem dX5_carryOut_40 : decode cX5_carryOut 40 = .ok (.imul, 1) := by decide +kernel
theorem dX5_carryOut_41 : decode cX5_carryOut 41 = .ok (.invokevirtual 226, 3) := by decide +kernel
theorem dX5_carryOut_44 : decode cX5_carryOut 44 = .ok (.ifCond .eq 5, 3) := by decide +kernel
theorem dX5_carryOut_47 : decode cX5_carryOut 47 = .ok (.iload_n 1, 1) := by decide +kernel
theorem dX5_carryOut_48 : decode cX5_carryOut 48 = .ok (.ireturn, 1) := by decide +kernel
theorem dX5_carryOut_49 : decode cX5_carryOut 49 = .ok (.aload_n 0, 1) := by decide +kernel
theorem dX5_carryOut_50 : decode cX5_carryOut 50 = .ok (.bipush 7, 2) := by decide +kernel
theorem dX5_carryOut_52 : decode cX5_carryOut 52 = .ok (.iload_n 1, 1) := by decide +kernel
theorem dX5_carryOut_53 : decode cX5_carryOut 53 = .ok (.imul, 1) := by decide +kernel
theorem dX5_carryOut_54 : decode cX5_carryOut 54 = .ok (.invokevirtual 229, 3) := by decide +kernel
theorem dX5_carryOut_57 : decode cX5_carryOut 57 = .ok (.iinc 1 1, 3) := by decide +kernel
theorem dX5_carryOut_60 : decode cX5_carryOut 60 = .ok (.goto (-32), 3) := by decide +kernel
theorem dX5_carryOut_63 : decode cX5_carryOut 63 = .ok (.aload_n 0, 1) := by decide +kernel
theorem dX5_carryOut_64 : decode cX5_carryOut 64 = .ok (.getfield 211, 3) := by decide +kernel
theorem dX5_carryOut_67 : decode cX5_carryOut 67 = .ok (.ireturn, 1) := by decide +kernel
theorem dX5_undo_0 : decode cX5_undo 0 = .ok (.aload_n 0, 1) := by decide +kernel
theorem dX5_undo_1 : decode cX5_undo 1 = .ok (.iconst 0, 1) := by decide +kernel
theorem dX5_undo_2 : decode cX5_undo 2 = .ok (.putfield 62, 3) := by decide +kernel
theorem dX5_undo_5 : decode cX5_undo 5 = .ok (.aload_n 0, 1) := by decide +kernel
theorem dX5_undo_6 : decode cX5_undo 6 = .ok (.getfield 66, 3) := by decide +kernel
theorem dX5_undo_9 : decode cX5_undo 9 = .ok (.ifCond .ne 6, 3) := by decide +kernel
theorem dX5_undo_12 : decode cX5_undo 12 = .ok (.bipush (-5), 2) := by decide +kernel
theorem dX5_undo_14 : decode cX5_undo 14 = .ok (.ireturn, 1) := by decide +kernel
theorem dX5_undo_15 : decode cX5_undo 15 = .ok (.aload_n 0, 1) := by decide +kernel
theorem dX5_undo_16 : decode cX5_undo 16 = .ok (.dup, 1) := by decide +kernel
theorem dX5_undo_17 : decode cX5_undo 17 = .ok (.getfield 66, 3) := by decide +kernel
theorem dX5_undo_20 : decode cX5_undo 20 = .ok (.iconst 1, 1) := by decide +kernel
theorem dX5_undo_21 : decode cX5_undo 21 = .ok (.isub, 1) := by decide +kernel
theorem dX5_undo_22 : decode cX5_undo 22 = .ok (.putfield 66, 3) := by decide +kernel
theorem dX5_undo_25 : decode cX5_undo 25 = .ok (.iconst 0, 1) := by decide +kernel
theorem dX5_undo_26 : decode cX5_undo 26 = .ok (.istore_n 1, 1) := by decide +kernel
theorem dX5_undo_27 : decode cX5_undo 27 = .ok (.iload_n 1, 1) := by decide +kernel
theorem dX5_undo_28 : decode cX5_undo 28 = .ok (.sipush 153, 3) := by decide +kernel
theorem dX5_undo_31 : decode cX5_undo 31 = .ok (.if_icmp .ge 30, 3) := by decide +kernel
theorem dX5_undo_34 : decode cX5_undo 34 = .ok (.aload_n 0, 1) := by decide +kernel
theorem dX5_undo_35 : decode cX5_undo 35 = .ok (.getfield 7, 3) := by decide +kernel
theorem dX5_undo_38 : decode cX5_undo 38 = .ok (.iload_n 1, 1) := by decide +kernel
theorem dX5_undo_39 : decode cX5_undo 39 = .ok (.aload_n 0, 1) := by decide +kernel
theorem dX5_undo_40 : decode cX5_undo 40 = .ok (.getfield 13, 3) := by decide +kernel
theorem dX5_undo_43 : decode cX5_undo 43 = .ok (.sipush 153, 3) := by decide +kernel
theorem dX5_undo_46 : decode cX5_undo 46 = .ok (.aload_n 0, 1) := by decide +kernel
theorem dX5_undo_47 : decode cX5_undo 47 = .ok (.getfield 66, 3) := by decide +kernel
theorem dX5_undo_50 : decode cX5_undo 50 = .ok (.imul, 1) := by decide +kernel
theorem dX5_undo_51 : decode cX5_undo 51 = .ok (.iload_n 1, 1) := by decide +kernel
theorem dX5_undo_52 : decode cX5_undo 52 = .ok (.iadd, 1) := by decide +kernel
theorem dX5_undo_53 : decode cX5_undo 53 = .ok (.iaload, 1) := by decide +kernel
theorem dX5_undo_54 : decode cX5_undo 54 = .ok (.iastore, 1) := by decide +kernel
theorem dX5_undo_55 : decode cX5_undo 55 = .ok (.iinc 1 1, 3) := by decide +kernel
theorem dX5_undo_58 : decode cX5_undo 58 = .ok (.goto (-31), 3) := by decide +kernel
theorem dX5_undo_61 : decode cX5_undo 61 = .ok (.aload_n 0, 1) := by decide +kernel
theorem dX5_undo_62 : decode cX5_undo 62 = .ok (.getfield 66, 3) := by decide +kernel
theorem dX5_undo_65 : decode cX5_undo 65 = .ok (.ireturn, 1) := by decide +kernel
set_option maxRecDepth 20000 in
theorem ggX5_save_X5_in : GoodIn wsX5_save wsX5_in := goodIn_r _ [8] (by decide +kernel) (by decide +kernel)
set_option maxRecDepth 20000 in
theorem gX5_save_X5_in : GoodIn wsX5_save (va_wsS RX5 107 yX5_in wsX5_in) := goodIn_app (goodIn_of _ (by decide +kernel)) ggX5_save_X5_in
theorem dX5_save_0 : decode cX5_save 0 = .ok (.aload_n 0, 1) := by decide +kernel
theorem dX5_save_1 : decode cX5_save 1 = .ok (.iconst 0, 1) := by decide +kernel
theorem dX5_save_2 : decode cX5_save 2 = .ok (.putfield 62, 3) := by decide +kernel
theorem dX5_save_5 : decode cX5_save 5 = .ok (.iload_n 1, 1) := by decide +kernel
theorem dX5_save_6 : decode cX5_save 6 = .ok (.iconst 0, 1) := by decide +kernel
theorem dX5_save_7 : decode cX5_save 7 = .ok (.iconst 1, 1) := by decide +kernel
theorem dX5_save_8 : decode cX5_save 8 = .ok (.invokestatic 107, 3) := by decide +kernel
theorem dX5_save_11 : decode cX5_save 11 = .ok (.ifCond .ne 6, 3) := by decide +kernel
theorem dX5_save_14 : decode cX5_save 14 = .ok (.bipush (-2), 2) := by decide +kernel
theorem dX5_save_16 : decode cX5_save 16 = .ok (.ireturn, 1) := by decide +kernel
theorem dX5_save_17 : decode cX5_save 17 = .ok (.iconst 0, 1) := by decide +kernel
theorem dX5_save_18 : decode cX5_save 18 = .ok (.istore_n 2, 1) := by decide +kernel
theorem dX5_save_19 : decode cX5_save 19 = .ok (.iload_n 2, 1) := by decide +kernel
theorem dX5_save_20 : decode cX5_save 20 = .ok (.sipush 153, 3) := by decide +kernel
theorem dX5_save_23 : decode cX5_save 23 = .ok (.if_icmp .ge 27, 3) := by decide +kernel
theorem dX5_save_26 : decode cX5_save 26 = .ok (.aload_n 0, 1) := by decide +kernel
theorem dX5_save_27 : decode cX5_save 27 = .ok (.getfield 16, 3) := by decide +kernel
theorem dX5_save_30 : decode cX5_save 30 = .ok (.sipush 153, 3) := by decide +kernel
theorem dX5_save_33 : decode cX5_save 33 = .ok (.iload_n 1, 1) := by decide +kernel
theorem dX5_save_34 : decode cX5_save 34 = .ok (.imul, 1) := by decide +kernel
theorem dX5_save_35 : decode cX5_save 35 = .ok (.iload_n 2, 1) := by decide +kernel
theorem dX5_save_36 : decode cX5_save 36 = .ok (.iadd, 1) := by decide +kernel
theorem dX5_save_37 : decode cX5_save 37 = .ok (.aload_n 0, 1) := by decide +kernel
theorem dX5_save_38 : decode cX5_save 38 = .ok (.getfield 7, 3) := by decide +kernel
theorem dX5_save_41 : decode cX5_save 41 = .ok (.iload_n 2, 1) := by decide +kernel
theorem dX5_save_42 : decode cX5_save 42 = .ok (.iaload, 1) := by decide +kernel
theorem dX5_save_43 : decode cX5_save 43 = .ok (.iastore, 1) := by decide +kernel
theorem dX5_save_44 : decode cX5_save 44 = .ok (.iinc 2 1, 3) := by decide +kernel
theorem dX5_save_47 : decode cX5_save 47 = .ok (.goto (-28), 3) := by decide +kernel
theorem dX5_save_50 : decode cX5_save 50 = .ok (.aload_n 0, 1) := by decide +kernel
theorem dX5_save_51 : decode cX5_save 51 = .ok (.getfield 19, 3) := by decide +kernel
theorem dX5_save_54 : decode cX5_save 54 = .ok (.iload_n 1, 1) := by decide +kernel
theorem dX5_save_55 : decode cX5_save 55 = .ok (.iconst 1, 1) := by decide +kernel
theorem dX5_save_56 : decode cX5_save 56 = .ok (.bastore, 1) := by decide +kernel
theorem dX5_save_57 : decode cX5_save 57 = .ok (.aload_n 0, 1) := by decide +kernel
theorem dX5_save_58 : decode cX5_save 58 = .ok (.getfield 7, 3) := by decide +kernel
theorem dX5_save_61 : decode cX5_save 61 = .ok (.iconst 3, 1) := by decide +kernel
theorem dX5_save_62 : decode cX5_save 62 = .ok (.iaload, 1) := by decide +kernel
theorem dX5_save_63 : decode cX5_save 63 = .ok (.ireturn, 1) := by decide +kernel
set_option maxRecDepth 20000 in
theorem ggX5_restore_X5_in : GoodIn wsX5_restore wsX5_in := goodIn_r _ [8] (by decide +kernel) (by decide +kernel)
set_option maxRecDepth 20000 in
theorem gX5_restore_X5_in : GoodIn wsX5_restore (va_wsS RX5 107 yX5_in wsX5_in) := goodIn_app (goodIn_of _ (by decide +kernel)) ggX5_restore_X5_in
set_option maxRecDepth 20000 in
theorem ggX5_restore_X5_records : GoodIn wsX5_restore wsX5_records := goodIn_r _ [12, 13, 14, 3, 15, 16, 17, 18, 19, 20, 21, 22, 23, 24, 25, 26, 27, 28, 29, 30, 31, 32, 33, 34, 35, 36, 37] (by decide +kernel) (by decide +kernel)
set_option maxRecDepth 20000 in
theorem gX5_restore_X5_records : GoodIn wsX5_restore (wsV RX5 114 RX5 yX5_records wsX5_records) := goodIn_app (goodIn_of _ (by decide +kernel)) ggX5_restore_X5_records
theorem dX5_restore_0 : decode cX5_restore 0 = .ok (.aload_n 0, 1) := by decide +kernel
theorem dX5_restore_1 : decode cX5_restore 1 = .ok (.iconst 0, 1) := by decide +kernel
theorem dX5_restore_2 : decode cX5_restore 2 = .ok (.putfield 62, 3) := by decide +kernel
theorem dX5_restore_5 : decode cX5_restore 5 = .ok (.iload_n 1, 1) := by decide +kernel
theorem dX5_restore_6 : decode cX5_restore 6 = .ok (.iconst 0, 1) := by decide +kernel
theorem dX5_restore_7 : decode cX5_restore 7 = .ok (.iconst 1, 1) := by decide +kernel
theorem dX5_restore_8 : decode cX5_restore 8 = .ok (.invokestatic 107, 3) := by decide +kernel
theorem dX5_restore_11 : decode cX5_restore 11 = .ok (.ifCond .ne 6, 3) := by decide +kernel
theorem dX5_restore_14 : decode cX5_restore 14 = .ok (.bipush (-2), 2) := by decide +kernel
theorem dX5_restore_16 : decode cX5_restore 16 = .ok (.ireturn, 1) := by decide +kernel
theorem dX5_restore_17 : decode cX5_restore 17 = .ok (.aload_n 0, 1) := by decide +kernel
theorem dX5_restore_18 : decode cX5_restore 18 = .ok (.getfield 19, 3) := by decide +kernel
theorem dX5_restore_21 : decode cX5_restore 21 = .ok (.iload_n 1, 1) := by decide +kernel
theorem dX5_restore_22 : decode cX5_restore 22 = .ok (.baload, 1) := by decide +kernel
theorem dX5_restore_23 : decode cX5_restore 23 = .ok (.ifCond .ne 6, 3) := by decide +kernel
theorem dX5_restore_26 : decode cX5_restore 26 = .ok (.bipush (-5), 2) := by decide +kernel
theorem dX5_restore_28 : decode cX5_restore 28 = .ok (.ireturn, 1) := by decide +kernel
theorem dX5_restore_29 : decode cX5_restore 29 = .ok (.aload_n 0, 1) := by decide +kernel
theorem dX5_restore_30 : decode cX5_restore 30 = .ok (.invokevirtual 114, 3) := by decide +kernel
theorem dX5_restore_33 : decode cX5_restore 33 = .ok (.iconst 0, 1) := by decide +kernel
theorem dX5_restore_34 : decode cX5_restore 34 = .ok (.istore_n 2, 1) := by decide +kernel
theorem dX5_restore_35 : decode cX5_restore 35 = .ok (.iload_n 2, 1) := by decide +kernel
theorem dX5_restore_36 : decode cX5_restore 36 = .ok (.sipush 153, 3) := by decide +kernel
theorem dX5_restore_39 : decode cX5_restore 39 = .ok (.if_icmp .ge 27, 3) := by decide +kernel
theorem dX5_restore_42 : decode cX5_restore 42 = .ok (.aload_n 0, 1) := by decide +kernel
theorem dX5_restore_43 : decode cX5_restore 43 = .ok (.getfield 7, 3) := by decide +kernel
theorem dX5_restore_46 : decode cX5_restore 46 = .ok (.iload_n 2, 1) := by decide +kernel
theorem dX5_restore_47 : decode cX5_restore 47 = .ok (.aload_n 0, 1) := by decide +kernel
theorem dX5_restore_48 : decode cX5_restore 48 = .ok (.getfield 16, 3) := by decide +kernel
theorem dX5_restore_51 : decode cX5_restore 51 = .ok (.sipush 153, 3) := by decide +kernel
theorem dX5_restore_54 : decode cX5_restore 54 = .ok (.iload_n 1, 1) := by decide +kernel
theorem dX5_restore_55 : decode cX5_restore 55 = .ok (.imul, 1) := by decide +kernel
theorem dX5_restore_56 : decode cX5_restore 56 = .ok (.iload_n 2, 1) := by decide +kernel
theorem dX5_restore_57 : decode cX5_restore 57 = .ok (.iadd, 1) := by decide +kernel
theorem dX5_restore_58 : decode cX5_restore 58 = .ok (.iaload, 1) := by decide +kernel
theorem dX5_restore_59 : decode cX5_restore 59 = .ok (.iastore, 1) := by decide +kernel
theorem dX5_restore_60 : decode cX5_restore 60 = .ok (.iinc 2 1, 3) := by decide +kernel
theorem dX5_restore_63 : decode cX5_restore 63 = .ok (.goto (-28), 3) := by decide +kernel
theorem dX5_restore_66 : decode cX5_restore 66 = .ok (.aload_n 0, 1) := by decide +kernel
theorem dX5_restore_67 : decode cX5_restore 67 = .ok (.getfield 7, 3) := by decide +kernel
theorem dX5_restore_70 : decode cX5_restore 70 = .ok (.iconst 3, 1) := by decide +kernel
theorem dX5_restore_71 : decode cX5_restore 71 = .ok (.iaload, 1) := by decide +kernel
theorem dX5_restore_72 : decode cX5_restore 72 = .ok (.ireturn, 1) := by decide +kernel
theorem dJxe99ae_isNaN_b9ae7_0 : decode cJxe99ae_isNaN_b9ae7 0 = .ok (.dload_n 0, 1) := by decide +kernel
theorem dJxe99ae_isNaN_b9ae7_1 : decode cJxe99ae_isNaN_b9ae7 1 = .ok (.dload_n 0, 1) := by decide +kernel
theorem dJxe99ae_isNaN_b9ae7_2 : decode cJxe99ae_isNaN_b9ae7 2 = .ok (.dcmp .l, 1) := by decide +kernel
theorem dJxe99ae_isNaN_b9ae7_3 : decode cJxe99ae_isNaN_b9ae7 3 = .ok (.ifCond .eq 7, 3) := by decide +kernel
theorem dJxe99ae_isNaN_b9ae7_6 : decode cJxe99ae_isNaN_b9ae7 6 = .ok (.iconst 1, 1) := by decide +kernel
theorem dJxe99ae_isNaN_b9ae7_7 : decode cJxe99ae_isNaN_b9ae7 7 = .ok (.goto 4, 3) := by decide +kernel
theorem dJxe99ae_isNaN_b9ae7_10 : decode cJxe99ae_isNaN_b9ae7 10 = .ok (.iconst 0, 1) := by decide +kernel
theorem dJxe99ae_isNaN_b9ae7_11 : decode cJxe99ae_isNaN_b9ae7 11 = .ok (.ireturn, 1) := by decide +kernel
set_option maxRecDepth 20000 in
theorem ggJxe99ae_doubleToLongBits_ccdee_Jxe99ae_isNaN_b9ae7 : GoodIn wsJxe99ae_doubleToLongBits_ccdee wsJxe99ae_isNaN_b9ae7 := goodIn_r _ [9] (by decide +kernel) (by decide +kernel)
set_option maxRecDepth 20000 in
theorem gJxe99ae_doubleToLongBits_ccdee_Jxe99ae_isNaN_b9ae7 : GoodIn wsJxe99ae_doubleToLongBits_ccdee (va_wsS RJxe99ae 122 yJxe99ae_isNaN_b9ae7 wsJxe99ae_isNaN_b9ae7) := goodIn_app (goodIn_of _ (by decide +kernel)) ggJxe99ae_doubleToLongBits_ccdee_Jxe99ae_isNaN_b9ae7
theorem dJxe99ae_doubleToLongBits_ccdee_0 : decode cJxe99ae_doubleToLongBits_ccdee 0 = .ok (.dload_n 0, 1) := by decide +kernel
theorem dJxe99ae_doubleToLongBits_ccdee_1 : decode cJxe99ae_doubleToLongBits_ccdee 1 = .ok (.invokestatic 122, 3) := by decide +kernel
theorem dJxe99ae_doubleToLongBits_ccdee_4 : decode cJxe99ae_doubleToLongBits_ccdee 4 = .ok (.ifCond .ne 8, 3) := by decide +kernel
theorem dJxe99ae_doubleToLongBits_ccdee_7 : decode cJxe99ae_doubleToLongBits_ccdee 7 = .ok (.dload_n 0, 1) := by decide +kernel
theorem dJxe99ae_doubleToLongBits_ccdee_8 : decode cJxe99ae_doubleToLongBits_ccdee 8 = .ok (.invokestatic 134, 3) := by decide +kernel
theorem dJxe99ae_doubleToLongBits_ccdee_11 : decode cJxe99ae_doubleToLongBits_ccdee 11 = .ok (.lreturn, 1) := by decide +kernel
theorem dJxe99ae_doubleToLongBits_ccdee_12 : decode cJxe99ae_doubleToLongBits_ccdee 12 = .ok (.ldc2_w 137, 3) := by decide +kernel
theorem dJxe99ae_doubleToLongBits_ccdee_15 : decode cJxe99ae_doubleToLongBits_ccdee 15 = .ok (.lreturn, 1) := by decide +kernel
theorem dJxf58ca_isNaN_12338_0 : decode cJxf58ca_isNaN_12338 0 = .ok (.fload_n 0, 1) := by decide +kernel
theorem dJxf58ca_isNaN_12338_1 : decode cJxf58ca_isNaN_12338 1 = .ok (.fload_n 0, 1) := by decide +kernel
theorem dJxf58ca_isNaN_12338_2 : decode cJxf58ca_isNaN_12338 2 = .ok (.fcmp .l, 1) := by decide +kernel
theorem dJxf58ca_isNaN_12338_3 : decode cJxf58ca_isNaN_12338 3 = .ok (.ifCond .eq 7, 3) := by decide +kernel
theorem dJxf58ca_isNaN_12338_6 : decode cJxf58ca_isNaN_12338 6 = .ok (.iconst 1, 1) := by decide +kernel
theorem dJxf58ca_isNaN_12338_7 : decode cJxf58ca_isNaN_12338 7 = .ok (.goto 4, 3) := by decide +kernel
theorem dJxf58ca_isNaN_12338_10 : decode cJxf58ca_isNaN_12338 10 = .ok (.iconst 0, 1) := by decide +kernel
theorem dJxf58ca_isNaN_12338_11 : decode cJxf58ca_isNaN_12338 11 = .ok (.ireturn, 1) := by decide +kernel
set_option maxRecDepth 20000 in
theorem ggJxf58ca_floatToIntBits_5c35a_Jxf58ca_isNaN_12338 : GoodIn wsJxf58ca_floatToIntBits_5c35a wsJxf58ca_isNaN_12338 := goodIn_r _ [9] (by decide +kernel) (by decide +kernel)
set_option maxRecDepth 20000 in
theorem gJxf58ca_floatToIntBits_5c35a_Jxf58ca_isNaN_12338 : GoodIn wsJxf58ca_floatToIntBits_5c35a (va_wsS RJxf58ca 59 yJxf58ca_isNaN_12338 wsJxf58ca_isNaN_12338) := goodIn_app (goodIn_of _ (by decide +kernel)) ggJxf58ca_floatToIntBits_5c35a_Jxf58ca_isNaN_12338
theorem dJxf58ca_floatToIntBits_5c35a_0 : decode cJxf58ca_floatToIntBits_5c35a 0 = .ok (.fload_n 0, 1) := by decide +kernel
theorem dJxf58ca_floatToIntBits_5c35a_1 : decode cJxf58ca_floatToIntBits_5c35a 1 = .ok (.invokestatic 59, 3) := by decide +kernel
theorem dJxf58ca_floatToIntBits_5c35a_4 : decode cJxf58ca_floatToIntBits_5c35a 4 = .ok (.ifCond .ne 8, 3) := by decide +kernel
theorem dJxf58ca_floatToIntBits_5c35a_7 : decode cJxf58ca_floatToIntBits_5c35a 7 = .ok (.fload_n 0, 1) := by decide +kernel
theorem dJxf58ca_floatToIntBits_5c35a_8 : decode cJxf58ca_floatToIntBits_5c35a 8 = .ok (.invokestatic 74, 3) := by decide +kernel
theorem dJxf58ca_floatToIntBits_5c35a_11 : decode cJxf58ca_floatToIntBits_5c35a 11 = .ok (.ireturn, 1) := by decide +kernel
theorem dJxf58ca_floatToIntBits_5c35a_12 : decode cJxf58ca_floatToIntBits_5c35a 12 = .ok (.ldc 77, 2) := by decide +kernel
theorem dJxf58ca_floatToIntBits_5c35a_14 : decode cJxf58ca_floatToIntBits_5c35a 14 = .ok (.ireturn, 1) := by decide +kernel
