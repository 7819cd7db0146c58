set_option maxRecDepth 20000 in
theorem ggX4_init_X3_init : GoodIn wsX4_init wsX3_init := goodIn_r _ [26, 27, 2, 3, 28, 29, 30, 31, 32, 33, 34, 35, 36, 37, 38, 59, 60, 61, 62, 63, 64] (by decide +kernel) (by decide +kernel)
set_option maxRecDepth 20000 in
theorem gX4_init_X3_init_n11 : GoodIn wsX4_init (wsX3_init) := ggX4_init_X3_init
set_option maxRecDepth 20000 in
theorem ggX4_init_X2_init : GoodIn wsX4_init wsX2_init := goodIn_r _ [40, 41, 2, 3, 35, 42, 43, 44, 45, 46, 73, 74, 75, 76, 77, 78, 79] (by decide +kernel) (by decide +kernel)
set_option maxRecDepth 20000 in
theorem gX4_init_X2_init_n18 : GoodIn wsX4_init (wsX2_init) := ggX4_init_X2_init
set_option maxRecDepth 20000 in
theorem ggX4_init_X0_init : GoodIn wsX4_init wsX0_init := goodIn_r _ [49, 50, 2, 3, 51, 52, 5, 6, 25, 26, 27, 28, 29, 30, 31, 32, 33, 34, 35, 36, 37, 38, 80, 81, 82, 59, 60, 61, 62, 63, 64] (by decide +kernel) (by decide +kernel)
set_option maxRecDepth 20000 in
theorem gX4_init_X0_init : GoodIn wsX4_init (wsX0_init) := ggX4_init_X0_init
set_option maxRecDepth 20000 in
theorem ggX4_init_X1_init : GoodIn wsX4_init wsX1_init := goodIn_r _ [54, 55, 2, 3, 56, 57, 35, 58, 83, 84, 85, 86, 87, 88] (by decide +kernel) (by decide +kernel)
set_option maxRecDepth 20000 in
theorem gX4_init_X1_init_n46 : GoodIn wsX4_init (wsX1_init) := ggX4_init_X1_init
theorem dX4_init_0 : decode cX4_init 0 = .ok (.aload_n 0, 1) := by decide +kernel
theorem dX4_init_1 : decode cX4_init 1 = .ok (.invokespecial 3, 3) := by decide +kernel
theorem dX4_init_4 : decode cX4_init 4 = .ok (.aload_n 0, 1) := by decide +kernel
theorem dX4_init_5 : decode cX4_init 5 = .ok (.new 9, 3) := by decide +kernel
theorem dX4_init_8 : decode cX4_init 8 = .ok (.dup, 1) := by decide +kernel
theorem dX4_init_9 : decode cX4_init 9 = .ok (.invokespecial 11, 3) := by decide +kernel
theorem dX4_init_12 : decode cX4_init 12 = .ok (.putfield 12, 3) := by decide +kernel
theorem dX4_init_15 : decode cX4_init 15 = .ok (.aload_n 0, 1) := by decide +kernel
theorem dX4_init_16 : decode cX4_init 16 = .ok (.new 16, 3) := by decide +kernel
theorem dX4_init_19 : decode cX4_init 19 = .ok (.dup, 1) := by decide +kernel
theorem dX4_init_20 : decode cX4_init 20 = .ok (.invokespecial 18, 3) := by decide +kernel
theorem dX4_init_23 : decode cX4_init 23 = .ok (.putfield 19, 3) := by decide +kernel
theorem dX4_init_26 : decode cX4_init 26 = .ok (.aload_n 0, 1) := by decide +kernel
theorem dX4_init_27 : decode cX4_init 27 = .ok (.new 9, 3) := by decide +kernel
theorem dX4_init_30 : decode cX4_init 30 = .ok (.dup, 1) := by decide +kernel
theorem dX4_init_31 : decode cX4_init 31 = .ok (.invokespecial 11, 3) := by decide +kernel
theorem dX4_init_34 : decode cX4_init 34 = .ok (.putfield 23, 3) := by decide +kernel
theorem dX4_init_37 : decode cX4_init 37 = .ok (.aload_n 0, 1) := by decide +kernel
theorem dX4_init_38 : decode cX4_init 38 = .ok (.new 16, 3) := by decide +kernel
theorem dX4_init_41 : decode cX4_init 41 = .ok (.dup, 1) := by decide +kernel
theorem dX4_init_42 : decode cX4_init 42 = .ok (.invokespecial 18, 3) := by decide +kernel
theorem dX4_init_45 : decode cX4_init 45 = .ok (.putfield 26, 3) := by decide +kernel
theorem dX4_init_48 : decode cX4_init 48 = .ok (.aload_n 0, 1) := by decide +kernel
theorem dX4_init_49 : decode cX4_init 49 = .ok (.new 29, 3) := by decide +kernel
theorem dX4_init_52 : decode cX4_init 52 = .ok (.dup, 1) := by decide +kernel
theorem dX4_init_53 : decode cX4_init 53 = .ok (.invokespecial 31, 3) := by decide +kernel
theorem dX4_init_56 : decode cX4_init 56 = .ok (.putfield 32, 3) := by decide +kernel
theorem dX4_init_59 : decode cX4_init 59 = .ok (.aload_n 0, 1) := by decide +kernel
theorem dX4_init_60 : decode cX4_init 60 = .ok (.iconst 2, 1) := by decide +kernel
theorem dX4_init_61 : decode cX4_init 61 = .ok (.anewarray 9, 3) := by decide +kernel
theorem dX4_init_64 : decode cX4_init 64 = .ok (.putfield 36, 3) := by decide +kernel
theorem dX4_init_67 : decode cX4_init 67 = .ok (.aload_n 0, 1) := by decide +kernel
theorem dX4_init_68 : decode cX4_init 68 = .ok (.iconst 2, 1) := by decide +kernel
theorem dX4_init_69 : decode cX4_init 69 = .ok (.newarray .boolean, 2) := by decide +kernel
theorem dX4_init_71 : decode cX4_init 71 = .ok (.putfield 40, 3) := by decide +kernel
theorem dX4_init_74 : decode cX4_init 74 = .ok (.aload_n 0, 1) := by decide +kernel
theorem dX4_init_75 : decode cX4_init 75 = .ok (.new 44, 3) := by decide +kernel
theorem dX4_init_78 : decode cX4_init 78 = .ok (.dup, 1) := by decide +kernel
theorem dX4_init_79 : decode cX4_init 79 = .ok (.invokespecial 46, 3) := by decide +kernel
theorem dX4_init_82 : decode cX4_init 82 = .ok (.putfield 47, 3) := by decide +kernel
theorem dX4_init_85 : decode cX4_init 85 = .ok (.iconst 0, 1) := by decide +kernel
theorem dX4_init_86 : decode cX4_init 86 = .ok (.istore_n 1, 1) := by decide +kernel
theorem dX4_init_87 : decode cX4_init 87 = .ok (.iload_n 1, 1) := by decide +kernel
theorem dX4_init_88 : decode cX4_init 88 = .ok (.iconst 2, 1) := by decide +kernel
theorem dX4_init_89 : decode cX4_init 89 = .ok (.if_icmp .ge 22, 3) := by decide +kernel
theorem dX4_init_92 : decode cX4_init 92 = .ok (.aload_n 0, 1) := by decide +kernel
theorem dX4_init_93 : decode cX4_init 93 = .ok (.getfield 36, 3) := by decide +kernel
theorem dX4_init_96 : decode cX4_init 96 = .ok (.iload_n 1, 1) := by decide +kernel
theorem dX4_init_97 : decode cX4_init 97 = .ok (.new 9, 3) := by decide +kernel
theorem dX4_init_100 : decode cX4_init 100 = .ok (.dup, 1) := by decide +kernel
theorem dX4_init_101 : decode cX4_init 101 = .ok (.invokespecial 11, 3) := by decide +kernel
theorem dX4_init_104 : decode cX4_init 104 = .ok (.aastore, 1) := by decide +kernel
theorem dX4_init_105 : decode cX4_init 105 = .ok (.iinc 1 1, 3) := by decide +kernel
theorem dX4_init_108 : decode cX4_init 108 = .ok (.goto (-21), 3) := by decide +kernel
theorem dX4_init_111 : decode cX4_init 111 = .ok (.return_, 1) := by decide +kernel
set_option maxRecDepth 20000 in
theorem ggX4_set_X0_note : GoodIn wsX4_set wsX0_note := goodIn_r _ [7, 8, 9, 10, 11, 12, 13, 14, 15, 16, 17, 18, 19, 20, 21, 22, 23, 24, 25, 140, 141, 142, 143, 144, 145, 146, 147, 148] (by decide +kernel) (by decide +kernel)
set_option maxRecDepth 20000 in
theorem gX4_set_X0_note : GoodIn wsX4_set (wsV RX4 51 RX0 yX0_note wsX0_note) := goodIn_app (goodIn_of _ (by decide +kernel)) ggX4_set_X0_note
set_option maxRecDepth 20000 in
theorem ggX4_set_X3_changeSetting : GoodIn wsX4_set wsX3_changeSetting := goodIn_r _ [29, 16, 30, 31, 32, 143, 144, 145, 146, 147, 148] (by decide +kernel) (by decide +kernel)
set_option maxRecDepth 20000 in
theorem gX4_set_X3_changeSetting : GoodIn wsX4_set (wsV RX4 55 RX3 yX3_changeSetting wsX3_changeSetting) := goodIn_app (goodIn_of _ (by decide +kernel)) ggX4_set_X3_changeSetting
set_option maxRecDepth 20000 in
theorem ggX4_set_X4_changed : GoodIn wsX4_set wsX4_changed := goodIn_r _ [36, 1, 37, 2, 38, 39, 40, 6, 41, 10, 9, 42, 43, 44, 45, 46, 47, 48, 49, 50, 51, 52, 53, 54, 55, 56, 57, 58, 59, 60, 14, 61, 22, 62, 63, 64, 65, 23, 66, 67, 68, 69, 70, 71, 72, 73, 21, 74, 75, 76, 77, 78, 79, 80, 81, 82, 83, 84, 85, 86, 87, 88, 89, 90, 91, 92, 93, 94, 95, 96, 97, 98, 99, 100, 101, 102, 103, 104, 105, 106, 107, 108, 109, 110, 111, 112, 113, 114, 115, 116, 117, 118, 119, 120, 121, 122, 123, 124, 125, 126, 127, 128, 129, 130, 131, 132, 133, 134, 135, 136, 137, 138, 139, 140, 141, 142, 143, 144, 145, 146, 147, 148, 149, 150, 151, 152, 153, 154, 155] (by decide +kernel) (by decide +kernel)
set_option maxRecDepth 20000 in
theorem gX4_set_X4_changed : GoodIn wsX4_set (wsV RX4 59 RX4 yX4_changed wsX4_changed) := goodIn_app (goodIn_of _ (by decide +kernel)) ggX4_set_X4_changed
theorem dX4_set_0 : decode cX4_set 0 = .ok (.aload_n 0, 1) := by decide +kernel
theorem dX4_set_1 : decode cX4_set 1 = .ok (.getfield 32, 3) := by decide +kernel
theorem dX4_set_4 : decode cX4_set 4 = .ok (.aload_n 0, 1) := by decide +kernel
theorem dX4_set_5 : decode cX4_set 5 = .ok (.getfield 12, 3) := by decide +kernel
theorem dX4_set_8 : decode cX4_set 8 = .ok (.invokevirtual 51, 3) := by decide +kernel
theorem dX4_set_11 : decode cX4_set 11 = .ok (.aload_n 0, 1) := by decide +kernel
theorem dX4_set_12 : decode cX4_set 12 = .ok (.aload_n 0, 1) := by decide +kernel
theorem dX4_set_13 : decode cX4_set 13 = .ok (.getfield 12, 3) := by decide +kernel
theorem dX4_set_16 : decode cX4_set 16 = .ok (.iload_n 1, 1) := by decide +kernel
theorem dX4_set_17 : decode cX4_set 17 = .ok (.iload_n 2, 1) := by decide +kernel
theorem dX4_set_18 : decode cX4_set 18 = .ok (.invokevirtual 55, 3) := by decide +kernel
theorem dX4_set_21 : decode cX4_set 21 = .ok (.invokevirtual 59, 3) := by decide +kernel
theorem dX4_set_24 : decode cX4_set 24 = .ok (.ireturn, 1) := by decide +kernel
set_option maxRecDepth 20000 in
theorem ggX4_visit_X0_note : GoodIn wsX4_visit wsX0_note := goodIn_r _ [7, 8, 9, 10, 11, 12, 13, 14, 15, 16, 17, 18, 19, 20, 21, 22, 23, 24, 25, 150, 151, 152, 153, 154, 155, 156, 157, 158] (by decide +kernel) (by decide +kernel)
set_option maxRecDepth 20000 in
theorem gX4_visit_X0_note : GoodIn wsX4_visit (wsV RX4 51 RX0 yX0_note wsX0_note) := goodIn_app (goodIn_of _ (by decide +kernel)) ggX4_visit_X0_note
set_option maxRecDepth 20000 in
theorem ggX4_visit_X3_addVisit : GoodIn wsX4_visit wsX3_addVisit := goodIn_r _ [29, 24, 30, 31, 32, 33, 34, 35, 36, 37, 38, 39, 40, 41, 14, 42, 21, 153, 154, 155, 156, 157, 158] (by decide +kernel) (by decide +kernel)
set_option maxRecDepth 20000 in
theorem gX4_visit_X3_addVisit : GoodIn wsX4_visit (wsV RX4 63 RX3 yX3_addVisit wsX3_addVisit) := goodIn_app (goodIn_of _ (by decide +kernel)) ggX4_visit_X3_addVisit
set_option maxRecDepth 20000 in
theorem ggX4_visit_X4_changed : GoodIn wsX4_visit wsX4_changed := goodIn_r _ [46, 1, 47, 2, 48, 49, 50, 6, 51, 10, 9, 52, 53, 54, 55, 56, 57, 58, 59, 60, 61, 62, 63, 64, 65, 66, 67, 68, 69, 70, 14, 71, 22, 72, 73, 74, 75, 23, 76, 77, 78, 79, 80, 81, 82, 83, 21, 84, 85, 86, 87, 88, 89, 90, 91, 92, 93, 94, 95, 96, 97, 98, 99, 100, 101, 102, 103, 104, 105, 106, 107, 108, 109, 110, 111, 112, 113, 114, 115, 116, 117, 118, 119, 120, 121, 122, 123, 124, 125, 126, 127, 128, 129, 130, 131, 132, 133, 134, 135, 136, 137, 138, 139, 140, 141, 142, 143, 144, 145, 146, 147, 148, 149, 150, 151, 152, 153, 154, 155, 156, 157, 158, 159, 160, 161, 162, 163, 164, 165] (by decide +kernel) (by decide +kernel)
set_option maxRecDepth 20000 in
theorem gX4_visit_X4_changed : GoodIn wsX4_visit (wsV RX4 59 RX4 yX4_changed wsX4_changed) := goodIn_app (goodIn_of _ (by decide +kernel)) ggX4_visit_X4_changed
theorem dX4_visit_0 : decode cX4_visit 0 = .ok (.aload_n 0, 1) := by decide +kernel
theorem dX4_visit_1 : decode cX4_visit 1 = .ok (.getfield 32, 3) := by decide +kernel
theorem dX4_visit_4 : decode cX4_visit 4 = .ok (.aload_n 0, 1) := by decide +kernel
theorem dX4_visit_5 : decode cX4_visit 5 = .ok (.getfield 12, 3) := by decide +kernel
theorem dX4_visit_8 : decode cX4_visit 8 = .ok (.invokevirtual 51, 3) := by decide +kernel
theorem dX4_visit_11 : decode cX4_visit 11 = .ok (.aload_n 0, 1) := by decide +kernel
theorem dX4_visit_12 : decode cX4_visit 12 = .ok (.aload_n 0, 1) := by decide +kernel
theorem dX4_visit_13 : decode cX4_visit 13 = .ok (.getfield 12, 3) := by decide +kernel
theorem dX4_visit_16 : decode cX4_visit 16 = .ok (.iload_n 1, 1) := by decide +kernel
theorem dX4_visit_17 : decode cX4_visit 17 = .ok (.iload_n 2, 1) := by decide +kernel
theorem dX4_visit_18 : decode cX4_visit 18 = .ok (.iload_n 3, 1) := by decide +kernel
theorem dX4_visit_19 : decode cX4_visit 19 = .ok (.iload 4, 2) := by decide +kernel
theorem dX4_visit_21 : decode cX4_visit 21 = .ok (.iload 5, 2) := by decide +kernel
theorem dX4_visit_23 : decode cX4_visit 23 = .ok (.iload 6, 2) := by decide +kernel
theorem dX4_visit_25 : decode cX4_visit 25 = .ok (.invokevirtual 63, 3) := by decide +kernel
theorem dX4_visit_28 : decode cX4_visit 28 = .ok (.invokevirtual 59, 3) := by decide +kernel
theorem dX4_visit_31 : decode cX4_visit 31 = .ok (.ireturn, 1) := by decide +kernel
set_option maxRecDepth 20000 in
theorem ggX4_drop_X0_note : GoodIn wsX4_drop wsX0_note := goodIn_r _ [7, 8, 9, 10, 11, 12, 13, 14, 15, 16, 17, 18, 19, 20, 21, 22, 23, 24, 25, 142, 143, 144, 145, 146, 147, 148, 149, 150] (by decide +kernel) (by decide +kernel)
set_option maxRecDepth 20000 in
theorem gX4_drop_X0_note : GoodIn wsX4_drop (wsV RX4 51 RX0 yX0_note wsX0_note) := goodIn_app (goodIn_of _ (by decide +kernel)) ggX4_drop_X0_note
set_option maxRecDepth 20000 in
theorem ggX4_drop_X3_removeVisit : GoodIn wsX4_drop wsX3_removeVisit := goodIn_r _ [29, 24, 21, 17, 18, 19, 20, 30, 31, 32, 14, 33, 145, 146, 147, 148, 149, 150] (by decide +kernel) (by decide +kernel)
set_option maxRecDepth 20000 in
theorem gX4_drop_X3_removeVisit : GoodIn wsX4_drop (wsV RX4 67 RX3 yX3_removeVisit wsX3_removeVisit) := goodIn_app (goodIn_of _ (by decide +kernel)) ggX4_drop_X3_removeVisit
set_option maxRecDepth 20000 in
theorem ggX4_drop_X4_changed : GoodIn wsX4_drop wsX4_changed := goodIn_r _ [38, 1, 39, 2, 40, 41, 42, 6, 43, 10, 9, 44, 45, 46, 47, 48, 49, 50, 51, 52, 53, 54, 55, 56, 57, 58, 59, 60, 61, 62, 14, 63, 22, 64, 65, 66, 67, 23, 68, 69, 70, 71, 72, 73, 74, 75, 21, 76, 77, 78, 79, 80, 81, 82, 83, 84, 85, 86, 87, 88, 89, 90, 91, 92, 93, 94, 95, 96, 97, 98, 99, 100, 101, 102, 103, 104, 105, 106, 107, 108, 109, 110, 111, 112, 113, 114, 115, 116, 117, 118, 119, 120, 121, 122, 123, 124, 125, 126, 127, 128, 129, 130, 131, 132, 133, 134, 135, 136, 137, 138, 139, 140, 141, 142, 143, 144, 145, 146, 147, 148, 149, 150, 151, 152, 153, 154, 155, 156, 157] (by decide +kernel) (by decide +kernel)
set_option maxRecDepth 20000 in
theorem gX4_drop_X4_changed : GoodIn wsX4_drop (wsV RX4 59 RX4 yX4_changed wsX4_changed) := goodIn_app (goodIn_of _ (by decide +kernel)) ggX4_drop_X4_changed
theorem dX4_drop_0 : decode cX4_drop 0 = .ok (.aload_n 0, 1) := by decide +kernel
theorem dX4_drop_1 : decode cX4_drop 1 = .ok (.getfield 32, 3) := by decide +kernel
theorem dX4_drop_4 : decode cX4_drop 4 = .ok (.aload_n 0, 1) := by decide +kernel
theorem dX4_drop_5 : decode cX4_drop 5 = .ok (.getfield 12, 3) := by decide +kernel
theorem dX4_drop_8 : decode cX4_drop 8 = .ok (.invokevirtual 51, 3) := by decide +kernel
theorem dX4_drop_11 : decode cX4_drop 11 = .ok (.aload_n 0, 1) := by decide +kernel
theorem dX4_drop_12 : decode cX4_drop 12 = .ok (.aload_n 0, 1) := by decide +kernel
theorem dX4_drop_13 : decode cX4_drop 13 = .ok (.getfield 12, 3) := by decide +kernel
theorem dX4_drop_16 : decode cX4_drop 16 = .ok (.iload_n 1, 1) := by decide +kernel
theorem dX4_drop_17 : decode cX4_drop 17 = .ok (.invokevirtual 67, 3) := by decide +kernel
theorem dX4_drop_20 : decode cX4_drop 20 = .ok (.invokevirtual 59, 3) := by decide +kernel
theorem dX4_drop_23 : decode cX4_drop 23 = .ok (.ireturn, 1) := by decide +kernel
set_option maxRecDepth 20000 in
theorem ggX4_van_X0_note : GoodIn wsX4_van wsX0_note := goodIn_r _ [7, 8, 9, 10, 11, 12, 13, 14, 15, 16, 17, 18, 19, 20, 21, 22, 23, 24, 25, 140, 141, 142, 143, 144, 145, 146, 147, 148] (by decide +kernel) (by decide +kernel)
set_option maxRecDepth 20000 in
theorem gX4_van_X0_note : GoodIn wsX4_van (wsV RX4 51 RX0 yX0_note wsX0_note) := goodIn_app (goodIn_of _ (by decide +kernel)) ggX4_van_X0_note
set_option maxRecDepth 20000 in
theorem ggX4_van_X3_addVan : GoodIn wsX4_van wsX3_addVan := goodIn_r _ [29, 25, 22, 30, 31, 32, 143, 144, 145, 146, 147, 148] (by decide +kernel) (by decide +kernel)
set_option maxRecDepth 20000 in
theorem gX4_van_X3_addVan : GoodIn wsX4_van (wsV RX4 70 RX3 yX3_addVan wsX3_addVan) := goodIn_app (goodIn_of _ (by decide +kernel)) ggX4_van_X3_addVan
set_option maxRecDepth 20000 in
theorem ggX4_van_X4_changed : GoodIn wsX4_van wsX4_changed := goodIn_r _ [36, 1, 37, 2, 38, 39, 40, 6, 41, 10, 9, 42, 43, 44, 45, 46, 47, 48, 49, 50, 51, 52, 53, 54, 55, 56, 57, 58, 59, 60, 14, 61, 22, 62, 63, 64, 65, 23, 66, 67, 68, 69, 70, 71, 72, 73, 21, 74, 75, 76, 77, 78, 79, 80, 81, 82, 83, 84, 85, 86, 87, 88, 89, 90, 91, 92, 93, 94, 95, 96, 97, 98, 99, 100, 101, 102, 103, 104, 105, 106, 107, 108, 109, 110, 111, 112, 113, 114, 115, 116, 117, 118, 119, 120, 121, 122, 123, 124, 125, 126, 127, 128, 129, 130, 131, 132, 133, 134, 135, 136, 137, 138, 139, 140, 141, 142, 143, 144, 145, 146, 147, 148, 149, 150, 151, 152, 153, 154, 155] (by decide +kernel) (by decide +kernel)
set_option maxRecDepth 20000 in
theorem gX4_van_X4_changed : GoodIn wsX4_van (wsV RX4 59 RX4 yX4_changed wsX4_changed) := goodIn_app (goodIn_of _ (by decide +kernel)) ggX4_van_X4_changed
theorem dX4_van_0 : decode cX4_van 0 = .ok (.aload_n 0, 1) := by decide +kernel
theorem dX4_van_1 : decode cX4_van 1 = .ok (.getfield 32, 3) := by decide +kernel
theorem dX4_van_4 : decode cX4_van 4 = .ok (.aload_n 0, 1) := by decide +kernel
theorem dX4_van_5 : decode cX4_van 5 = .ok (.getfield 12, 3) := by decide +kernel
theorem dX4_van_8 : decode cX4_van 8 = .ok (.invokevirtual 51, 3) := by decide +kernel
theorem dX4_van_11 : decode cX4_van 11 = .ok (.aload_n 0, 1) := by decide +kernel
theorem dX4_van_12 : decode cX4_van 12 = .ok (.aload_n 0, 1) := by decide +kernel
theorem dX4_van_13 : decode cX4_van 13 = .ok (.getfield 12, 3) := by decide +kernel
theorem dX4_van_16 : decode cX4_van 16 = .ok (.iload_n 1, 1) := by decide +kernel
theorem dX4_van_17 : decode cX4_van 17 = .ok (.iload_n 2, 1) := by decide +kernel
theorem dX4_van_18 : decode cX4_van 18 = .ok (.invokevirtual 70, 3) := by decide +kernel
theorem dX4_van_21 : decode cX4_van 21 = .ok (.invokevirtual 59, 3) := by decide +kernel
theorem dX4_van_24 : decode cX4_van 24 = .ok (.ireturn, 1) := by decide +kernel
set_option maxRecDepth 20000 in
theorem ggX4_load_X0_note : GoodIn wsX4_load wsX0_note := goodIn_r _ [7, 8, 9, 10, 11, 12, 13, 14, 15, 16, 17, 18, 19, 20, 21, 22, 23, 24, 25, 147, 148, 149, 150, 151, 152, 153, 154, 155] (by decide +kernel) (by decide +kernel)
set_option maxRecDepth 20000 in
theorem gX4_load_X0_note : GoodIn wsX4_load (wsV RX4 51 RX0 yX0_note wsX0_note) := goodIn_app (goodIn_of _ (by decide +kernel)) ggX4_load_X0_note
set_option maxRecDepth 20000 in
theorem ggX4_load_X3_changeStock : GoodIn wsX4_load wsX3_changeStock := goodIn_r _ [29, 23, 30, 31, 32, 14, 33, 25, 34, 35, 36, 37, 38, 39, 150, 151, 152, 153, 154, 155] (by decide +kernel) (by decide +kernel)
set_option maxRecDepth 20000 in
theorem gX4_load_X3_changeStock : GoodIn wsX4_load (wsV RX4 73 RX3 yX3_changeStock wsX3_changeStock) := goodIn_app (goodIn_of _ (by decide +kernel)) ggX4_load_X3_changeStock
set_option maxRecDepth 20000 in
theorem ggX4_load_X4_changed : GoodIn wsX4_load wsX4_changed := goodIn_r _ [43, 1, 44, 2, 45, 46, 47, 6, 48, 10, 9, 49, 50, 51, 52, 53, 54, 55, 56, 57, 58, 59, 60, 61, 62, 63, 64, 65, 66, 67, 14, 68, 22, 69, 70, 71, 72, 23, 73, 74, 75, 76, 77, 78, 79, 80, 21, 81, 82, 83, 84, 85, 86, 87, 88, 89, 90, 91, 92, 93, 94, 95, 96, 97, 98, 99, 100, 101, 102, 103, 104, 105, 106, 107, 108, 109, 110, 111, 112, 113, 114, 115, 116, 117, 118, 119, 120, 121, 122, 123, 124, 125, 126, 127, 128, 129, 130, 131, 132, 133, 134, 135, 136, 137, 138, 139, 140, 141, 142, 143, 144, 145, 146, 147, 148, 149, 150, 151, 152, 153, 154, 155, 156, 157, 158, 159, 160, 161, 162] (by decide +kernel) (by decide +kernel)
set_option maxRecDepth 20000 in
theorem gX4_load_X4_changed : GoodIn wsX4_load (wsV RX4 59 RX4 yX4_changed wsX4_changed) := goodIn_app (goodIn_of _ (by decide +kernel)) ggX4_load_X4_changed
theorem dX4_load_0 : decode cX4_load 0 = .ok (.aload_n 0, 1) := by decide +kernel
theorem dX4_load_1 : decode cX4_load 1 = .ok (.getfield 32, 3) := by decide +kernel
theorem dX4_load_4 : decode cX4_load 4 = .ok (.aload_n 0, 1) := by decide +kernel
theorem dX4_load_5 : decode cX4_load 5 = .ok (.getfield 12, 3) := by decide +kernel
theorem dX4_load_8 : decode cX4_load 8 = .ok (.invokevirtual 51, 3) := by decide +kernel
theorem dX4_load_11 : decode cX4_load 11 = .ok (.aload_n 0, 1) := by decide +kernel
theorem dX4_load_12 : decode cX4_load 12 = .ok (.aload_n 0, 1) := by decide +kernel
theorem dX4_load_13 : decode cX4_load 13 = .ok (.getfield 12, 3) := by decide +kernel
theorem dX4_load_16 : decode cX4_load 16 = .ok (.iload_n 1, 1) := by decide +kernel
theorem dX4_load_17 : decode cX4_load 17 = .ok (.iload_n 2, 1) := by decide +kernel
theorem dX4_load_18 : decode cX4_load 18 = .ok (.iload_n 3, 1) := by decide +kernel
theorem dX4_load_19 : decode cX4_load 19 = .ok (.invokevirtual 73, 3) := by decide +kernel
theorem dX4_load_22 : decode cX4_load 22 = .ok (.invokevirtual 59, 3) := by decide +kernel
theorem dX4_load_25 : decode cX4_load 25 = .ok (.ireturn, 1) := by decide +kernel
set_option maxRecDepth 20000 in
theorem ggX4_ofVisit_X3_hasVisit : GoodIn wsX4_ofVisit wsX3_hasVisit := goodIn_r _ [7, 8, 32, 33, 34, 35, 36, 37] (by decide +kernel) (by decide +kernel)
set_option maxRecDepth 20000 in
theorem gX4_ofVisit_X3_hasVisit : GoodIn wsX4_ofVisit (wsV RX4 77 RX3 yX3_hasVisit wsX3_hasVisit) := goodIn_app (goodIn_of _ (by decide +kernel)) ggX4_ofVisit_X3_hasVisit
set_option maxRecDepth 20000 in
theorem ggX4_ofVisit_X4_within : GoodIn wsX4_ofVisit wsX4_within := goodIn_r _ [12] (by decide +kernel) (by decide +kernel)
set_option maxRecDepth 20000 in
theorem gX4_ofVisit_X4_within : GoodIn wsX4_ofVisit (va_wsS RX4 81 yX4_within wsX4_within) := goodIn_app (goodIn_of _ (by decide +kernel)) ggX4_ofVisit_X4_within
set_option maxRecDepth 20000 in
theorem ggX4_ofVisit_X3_visitFact : GoodIn wsX4_ofVisit wsX3_visitFact := goodIn_r _ [16, 17, 32, 33, 34, 35, 36, 37] (by decide +kernel) (by decide +kernel)
set_option maxRecDepth 20000 in
theorem gX4_ofVisit_X3_visitFact : GoodIn wsX4_ofVisit (wsV RX4 85 RX3 yX3_visitFact wsX3_visitFact) := goodIn_app (goodIn_of _ (by decide +kernel)) ggX4_ofVisit_X3_visitFact
set_option maxRecDepth 20000 in
theorem ggX4_ofVisit_X2_outcome : GoodIn wsX4_ofVisit wsX2_outcome := goodIn_r _ [22, 23, 38, 39, 40, 41, 42, 43, 44] (by decide +kernel) (by decide +kernel)
set_option maxRecDepth 20000 in
theorem gX4_ofVisit_X2_outcome : GoodIn wsX4_ofVisit (wsV RX4 88 RX2 yX2_outcome wsX2_outcome) := goodIn_app (goodIn_of _ (by decide +kernel)) ggX4_ofVisit_X2_outcome
theorem dX4_ofVisit_0 : decode cX4_ofVisit 0 = .ok (.aload_n 0, 1) := by decide +kernel
theorem dX4_ofVisit_1 : decode cX4_ofVisit 1 = .ok (.getfield 12, 3) := by decide +kernel
theorem dX4_ofVisit_4 : decode cX4_ofVisit 4 = .ok (.iload_n 1, 1) := by decide +kernel
theorem dX4_ofVisit_5 : decode cX4_ofVisit 5 = .ok (.invokevirtual 77, 3) := by decide +kernel
theorem dX4_ofVisit_8 : decode cX4_ofVisit 8 = .ok (.ifCond .ne 5, 3) := by decide +kernel
theorem dX4_ofVisit_11 : decode cX4_ofVisit 11 = .ok (.iconst (-1), 1) := by decide +kernel
theorem dX4_ofVisit_12 : decode cX4_ofVisit 12 = .ok (.ireturn, 1) := by decide +kernel
theorem dX4_ofVisit_13 : decode cX4_ofVisit 13 = .ok (.iload_n 2, 1) := by decide +kernel
theorem dX4_ofVisit_14 : decode cX4_ofVisit 14 = .ok (.iconst 0, 1) := by decide +kernel
theorem dX4_ofVisit_15 : decode cX4_ofVisit 15 = .ok (.bipush 9, 2) := by decide +kernel
theorem dX4_ofVisit_17 : decode cX4_ofVisit 17 = .ok (.invokestatic 81, 3) := by decide +kernel
theorem dX4_ofVisit_20 : decode cX4_ofVisit 20 = .ok (.ifCond .ne 6, 3) := by decide +kernel
theorem dX4_ofVisit_23 : decode cX4_ofVisit 23 = .ok (.bipush (-2), 2) := by decide +kernel
theorem dX4_ofVisit_25 : decode cX4_ofVisit 25 = .ok (.ireturn, 1) := by decide +kernel
theorem dX4_ofVisit_26 : decode cX4_ofVisit 26 = .ok (.iload_n 2, 1) := by decide +kernel
theorem dX4_ofVisit_27 : decode cX4_ofVisit 27 = .ok (.bipush 6, 2) := by decide +kernel
theorem dX4_ofVisit_29 : decode cX4_ofVisit 29 = .ok (.if_icmp .ge 13, 3) := by decide +kernel
theorem dX4_ofVisit_32 : decode cX4_ofVisit 32 = .ok (.aload_n 0, 1) := by decide +kernel
theorem dX4_ofVisit_33 : decode cX4_ofVisit 33 = .ok (.getfield 12, 3) := by decide +kernel
theorem dX4_ofVisit_36 : decode cX4_ofVisit 36 = .ok (.iload_n 1, 1) := by decide +kernel
theorem dX4_ofVisit_37 : decode cX4_ofVisit 37 = .ok (.iload_n 2, 1) := by decide +kernel
theorem dX4_ofVisit_38 : decode cX4_ofVisit 38 = .ok (.invokevirtual 85, 3) := by decide +kernel
theorem dX4_ofVisit_41 : decode cX4_ofVisit 41 = .ok (.ireturn, 1) := by decide +kernel
theorem dX4_ofVisit_42 : decode cX4_ofVisit 42 = .ok (.aload_n 0, 1) := by decide +kernel
theorem dX4_ofVisit_43 : decode cX4_ofVisit 43 = .ok (.getfield 19, 3) := by decide +kernel
theorem dX4_ofVisit_46 : decode cX4_ofVisit 46 = .ok (.iload_n 1, 1) := by decide +kernel
theorem dX4_ofVisit_47 : decode cX4_ofVisit 47 = .ok (.iload_n 2, 1) := by decide +kernel
theorem dX4_ofVisit_48 : decode cX4_ofVisit 48 = .ok (.bipush 6, 2) := by decide +kernel
theorem dX4_ofVisit_50 : decode cX4_ofVisit 50 = .ok (.isub, 1) := by decide +kernel
theorem dX4_ofVisit_51 : decode cX4_ofVisit 51 = .ok (.invokevirtual 88, 3) := by decide +kernel
theorem dX4_ofVisit_54 : decode cX4_ofVisit 54 = .ok (.ireturn, 1) := by decide +kernel
set_option maxRecDepth 20000 in
theorem ggX4_ofVan_X3_hasVan : GoodIn wsX4_ofVan wsX3_hasVan := goodIn_r _ [7, 8, 32, 33, 34, 35, 36, 37] (by decide +kernel) (by decide +kernel)
set_option maxRecDepth 20000 in
theorem gX4_ofVan_X3_hasVan : GoodIn wsX4_ofVan (wsV RX4 91 RX3 yX3_hasVan wsX3_hasVan) := goodIn_app (goodIn_of _ (by decide +kernel)) ggX4_ofVan_X3_hasVan
set_option maxRecDepth 20000 in
theorem ggX4_ofVan_X4_within : GoodIn wsX4_ofVan wsX4_within := goodIn_r _ [12] (by decide +kernel) (by decide +kernel)
set_option maxRecDepth 20000 in
theorem gX4_ofVan_X4_within : GoodIn wsX4_ofVan (va_wsS RX4 81 yX4_within wsX4_within) := goodIn_app (goodIn_of _ (by decide +kernel)) ggX4_ofVan_X4_within
set_option maxRecDepth 20000 in
theorem ggX4_ofVan_X3_vanFact : GoodIn wsX4_ofVan wsX3_vanFact := goodIn_r _ [16, 17, 32, 33, 34, 35, 36, 37] (by decide +kernel) (by decide +kernel)
set_option maxRecDepth 20000 in
theorem gX4_ofVan_X3_vanFact : GoodIn wsX4_ofVan (wsV RX4 94 RX3 yX3_vanFact wsX3_vanFact) := goodIn_app (goodIn_of _ (by decide +kernel)) ggX4_ofVan_X3_vanFact
set_option maxRecDepth 20000 in
theorem ggX4_ofVan_X2_driveFact : GoodIn wsX4_ofVan wsX2_driveFact := goodIn_r _ [22, 23, 38, 39, 40, 41, 42, 43, 44] (by decide +kernel) (by decide +kernel)
set_option maxRecDepth 20000 in
theorem gX4_ofVan_X2_driveFact : GoodIn wsX4_ofVan (wsV RX4 97 RX2 yX2_driveFact wsX2_driveFact) := goodIn_app (goodIn_of _ (by decide +kernel)) ggX4_ofVan_X2_driveFact
theorem dX4_ofVan_0 : decode cX4_ofVan 0 = .ok (.aload_n 0, 1) := by decide +kernel
theorem dX4_ofVan_1 : decode cX4_ofVan 1 = .ok (.getfield 12, 3) := by decide +kernel
theorem dX4_ofVan_4 : decode cX4_ofVan 4 = .ok (.iload_n 1, 1) := by decide +kernel
theorem dX4_ofVan_5 : decode cX4_ofVan 5 = .ok (.invokevirtual 91, 3) := by decide +kernel
theorem dX4_ofVan_8 : decode cX4_ofVan 8 = .ok (.ifCond .ne 5, 3) := by decide +kernel
theorem dX4_ofVan_11 : decode cX4_ofVan 11 = .ok (.iconst (-1), 1) := by decide +kernel
theorem dX4_ofVan_12 : decode cX4_ofVan 12 = .ok (.ireturn, 1) := by decide +kernel
theorem dX4_ofVan_13 : decode cX4_ofVan 13 = .ok (.iload_n 2, 1) := by decide +kernel
theorem dX4_ofVan_14 : decode cX4_ofVan 14 = .ok (.iconst 0, 1) := by decide +kernel
theorem dX4_ofVan_15 : decode cX4_ofVan 15 = .ok (.bipush 7, 2) := by decide +kernel
theorem dX4_ofVan_17 : decode cX4_ofVan 17 = .ok (.invokestatic 81, 3) := by decide +kernel
theorem dX4_ofVan_20 : decode cX4_ofVan 20 = .ok (.ifCond .ne 6, 3) := by decide +kernel
theorem dX4_ofVan_23 : decode cX4_ofVan 23 = .ok (.bipush (-2), 2) := by decide +kernel
theorem dX4_ofVan_25 : decode cX4_ofVan 25 = .ok (.ireturn, 1) := by decide +kernel
theorem dX4_ofVan_26 : decode cX4_ofVan 26 = .ok (.iload_n 2, 1) := by decide +kernel
theorem dX4_ofVan_27 : decode cX4_ofVan 27 = .ok (.iconst 2, 1) := by decide +kernel
theorem dX4_ofVan_28 : decode cX4_ofVan 28 = .ok (.if_icmp .ge 13, 3) := by decide +kernel
theorem dX4_ofVan_31 : decode cX4_ofVan 31 = .ok (.aload_n 0, 1) := by decide +kernel
theorem dX4_ofVan_32 : decode cX4_ofVan 32 = .ok (.getfield 12, 3) := by decide +kernel
theorem dX4_ofVan_35 : decode cX4_ofVan 35 = .ok (.iload_n 1, 1) := by decide +kernel
theorem dX4_ofVan_36 : decode cX4_ofVan 36 = .ok (.iload_n 2, 1) := by decide +kernel
theorem dX4_ofVan_37 : decode cX4_ofVan 37 = .ok (.invokevirtual 94, 3) := by decide +kernel
theorem dX4_ofVan_40 : decode cX4_ofVan 40 = .ok (.ireturn, 1) := by decide +kernel
theorem dX4_ofVan_41 : decode cX4_ofVan 41 = .ok (.aload_n 0, 1) := by decide +kernel
theorem dX4_ofVan_42 : decode cX4_ofVan 42 = .ok (.getfield 19, 3) := by decide +kernel
theorem dX4_ofVan_45 : decode cX4_ofVan 45 = .ok (.iload_n 1, 1) := by decide +kernel
theorem dX4_ofVan_46 : decode cX4_ofVan 46 = .ok (.iload_n 2, 1) := by decide +kernel
theorem dX4_ofVan_47 : decode cX4_ofVan 47 = .ok (.iconst 2, 1) := by decide +kernel
theorem dX4_ofVan_48 : decode cX4_ofVan 48 = .ok (.isub, 1) := by decide +kernel
theorem dX4_ofVan_49 : decode cX4_ofVan 49 = .ok (.invokevirtual 97, 3) := by decide +kernel
theorem dX4_ofVan_52 : decode cX4_ofVan 52 = .ok (.ireturn, 1) := by decide +kernel
set_option maxRecDepth 20000 in
theorem ggX4_stock_X3_hasVan : GoodIn wsX4_stock wsX3_hasVan := goodIn_r _ [7, 8, 35, 36, 37, 38, 39, 40] (by decide +kernel) (by decide +kernel)
set_option maxRecDepth 20000 in
theorem gX4_stock_X3_hasVan : GoodIn wsX4_stock (wsV RX4 91 RX3 yX3_hasVan wsX3_hasVan) := goodIn_app (goodIn_of _ (by decide +kernel)) ggX4_stock_X3_hasVan
set_option maxRecDepth 20000 in
theorem ggX4_stock_X4_isPart : GoodIn wsX4_stock wsX4_isPart := goodIn_r _ [12, 13, 14, 11, 15] (by decide +kernel) (by decide +kernel)
set_option maxRecDepth 20000 in
theorem gX4_stock_X4_isPart : GoodIn wsX4_stock (va_wsS RX4 100 yX4_isPart wsX4_isPart) := goodIn_app (goodIn_of _ (by decide +kernel)) ggX4_stock_X4_isPart
set_option maxRecDepth 20000 in
theorem ggX4_stock_X3_partsOf : GoodIn wsX4_stock wsX3_partsOf := goodIn_r _ [19, 20, 35, 36, 37, 38, 39, 40] (by decide +kernel) (by decide +kernel)
set_option maxRecDepth 20000 in
theorem gX4_stock_X3_partsOf : GoodIn wsX4_stock (wsV RX4 103 RX3 yX3_partsOf wsX3_partsOf) := goodIn_app (goodIn_of _ (by decide +kernel)) ggX4_stock_X3_partsOf
set_option maxRecDepth 20000 in
theorem ggX4_stock_X2_partsLeft : GoodIn wsX4_stock wsX2_partsLeft := goodIn_r _ [25, 26, 41, 42, 43, 44, 45, 46, 47] (by decide +kernel) (by decide +kernel)
set_option maxRecDepth 20000 in
theorem gX4_stock_X2_partsLeft : GoodIn wsX4_stock (wsV RX4 106 RX2 yX2_partsLeft wsX2_partsLeft) := goodIn_app (goodIn_of _ (by decide +kernel)) ggX4_stock_X2_partsLeft
theorem dX4_stock_0 : decode cX4_stock 0 = .ok (.aload_n 0, 1) := by decide +kernel
theorem dX4_stock_1 : decode cX4_stock 1 = .ok (.getfield 12, 3) := by decide +kernel
theorem dX4_stock_4 : decode cX4_stock 4 = .ok (.iload_n 1, 1) := by decide +kernel
theorem dX4_stock_5 : decode cX4_stock 5 = .ok (.invokevirtual 91, 3) := by decide +kernel
theorem dX4_stock_8 : decode cX4_stock 8 = .ok (.ifCond .eq 10, 3) := by decide +kernel
theorem dX4_stock_11 : decode cX4_stock 11 = .ok (.iload_n 2, 1) := by decide +kernel
theorem dX4_stock_12 : decode cX4_stock 12 = .ok (.invokestatic 100, 3) := by decide +kernel
theorem dX4_stock_15 : decode cX4_stock 15 = .ok (.ifCond .ne 5, 3) := by decide +kernel
theorem dX4_stock_18 : decode cX4_stock 18 = .ok (.iconst (-1), 1) := by decide +kernel
theorem dX4_stock_19 : decode cX4_stock 19 = .ok (.ireturn, 1) := by decide +kernel
theorem dX4_stock_20 : decode cX4_stock 20 = .ok (.iload_n 3, 1) := by decide +kernel
theorem dX4_stock_21 : decode cX4_stock 21 = .ok (.tableswitch 67 0 2 #[27, 37, 57], 27) := by decide +kernel
theorem dX4_stock_48 : decode cX4_stock 48 = .ok (.aload_n 0, 1) := by decide +kernel
theorem dX4_stock_49 : decode cX4_stock 49 = .ok (.getfield 12, 3) := by decide +kernel
theorem dX4_stock_52 : decode cX4_stock 52 = .ok (.iload_n 1, 1) := by decide +kernel
theorem dX4_stock_53 : decode cX4_stock 53 = .ok (.iload_n 2, 1) := by decide +kernel
theorem dX4_stock_54 : decode cX4_stock 54 = .ok (.invokevirtual 103, 3) := by decide +kernel
theorem dX4_stock_57 : decode cX4_stock 57 = .ok (.ireturn, 1) := by decide +kernel
theorem dX4_stock_58 : decode cX4_stock 58 = .ok (.aload_n 0, 1) := by decide +kernel
theorem dX4_stock_59 : decode cX4_stock 59 = .ok (.getfield 12, 3) := by decide +kernel
theorem dX4_stock_62 : decode cX4_stock 62 = .ok (.iload_n 1, 1) := by decide +kernel
theorem dX4_stock_63 : decode cX4_stock 63 = .ok (.iload_n 2, 1) := by decide +kernel
theorem dX4_stock_64 : decode cX4_stock 64 = .ok (.invokevirtual 103, 3) := by decide +kernel
theorem dX4_stock_67 : decode cX4_stock 67 = .ok (.aload_n 0, 1) := by decide +kernel
theorem dX4_stock_68 : decode cX4_stock 68 = .ok (.getfield 19, 3) := by decide +kernel
theorem dX4_stock_71 : decode cX4_stock 71 = .ok (.iload_n 1, 1) := by decide +kernel
theorem dX4_stock_72 : decode cX4_stock 72 = .ok (.iload_n 2, 1) := by decide +kernel
theorem dX4_stock_73 : decode cX4_stock 73 = .ok (.invokevirtual 106, 3) := by decide +kernel
theorem dX4_stock_76 : decode cX4_stock 76 = .ok (.isub, 1) := by decide +kernel
theorem dX4_stock_77 : decode cX4_stock 77 = .ok (.ireturn, 1) := by decide +kernel
theorem dX4_stock_78 : decode cX4_stock 78 = .ok (.aload_n 0, 1) := by decide +kernel
theorem dX4_stock_79 : decode cX4_stock 79 = .ok (.getfield 19, 3) := by decide +kernel
theorem dX4_stock_82 : decode cX4_stock 82 = .ok (.iload_n 1, 1) := by decide +kernel
theorem dX4_stock_83 : decode cX4_stock 83 = .ok (.iload_n 2, 1) := by decide +kernel
theorem dX4_stock_84 : decode cX4_stock 84 = .ok (.invokevirtual 106, 3) := by decide +kernel
theorem dX4_stock_87 : decode cX4_stock 87 = .ok (.ireturn, 1) := by decide +kernel
theorem dX4_stock_88 : decode cX4_stock 88 = .ok (.bipush (-2), 2) := by decide +kernel
theorem dX4_stock_90 : decode cX4_stock 90 = .ok (.ireturn, 1) := by decide +kernel
set_option maxRecDepth 20000 in
theorem ggX4_event_X3_hasVan : GoodIn wsX4_event wsX3_hasVan := goodIn_r _ [7, 8, 32, 33, 34, 35, 36, 37] (by decide +kernel) (by decide +kernel)
set_option maxRecDepth 20000 in
theorem gX4_event_X3_hasVan : GoodIn wsX4_event (wsV RX4 91 RX3 yX3_hasVan wsX3_hasVan) := goodIn_app (goodIn_of _ (by decide +kernel)) ggX4_event_X3_hasVan
set_option maxRecDepth 20000 in
theorem ggX4_event_X2_driveFact : GoodIn wsX4_event wsX2_driveFact := goodIn_r _ [13, 14, 38, 39, 40, 41, 42, 43, 44] (by decide +kernel) (by decide +kernel)
set_option maxRecDepth 20000 in
theorem gX4_event_X2_driveFact : GoodIn wsX4_event (wsV RX4 97 RX2 yX2_driveFact wsX2_driveFact) := goodIn_app (goodIn_of _ (by decide +kernel)) ggX4_event_X2_driveFact
set_option maxRecDepth 20000 in
theorem ggX4_event_X4_within : GoodIn wsX4_event wsX4_within := goodIn_r _ [18] (by decide +kernel) (by decide +kernel)
set_option maxRecDepth 20000 in
theorem gX4_event_X4_within : GoodIn wsX4_event (va_wsS RX4 81 yX4_within wsX4_within) := goodIn_app (goodIn_of _ (by decide +kernel)) ggX4_event_X4_within
set_option maxRecDepth 20000 in
theorem ggX4_event_X2_eventFact : GoodIn wsX4_event wsX2_eventFact := goodIn_r _ [22, 23, 38, 39, 40, 41, 42, 43, 44] (by decide +kernel) (by decide +kernel)
set_option maxRecDepth 20000 in
theorem gX4_event_X2_eventFact : GoodIn wsX4_event (wsV RX4 109 RX2 yX2_eventFact wsX2_eventFact) := goodIn_app (goodIn_of _ (by decide +kernel)) ggX4_event_X2_eventFact
theorem dX4_event_0 : decode cX4_event 0 = .ok (.aload_n 0, 1) := by decide +kernel
theorem dX4_event_1 : decode cX4_event 1 = .ok (.getfield 12, 3) := by decide +kernel
theorem dX4_event_4 : decode cX4_event 4 = .ok (.iload_n 1, 1) := by decide +kernel
theorem dX4_event_5 : decode cX4_event 5 = .ok (.invokevirtual 91, 3) := by decide +kernel
theorem dX4_event_8 : decode cX4_event 8 = .ok (.ifCond .eq 20, 3) := by decide +kernel
theorem dX4_event_11 : decode cX4_event 11 = .ok (.iload_n 2, 1) := by decide +kernel
theorem dX4_event_12 : decode cX4_event 12 = .ok (.ifCond .lt 16, 3) := by decide +kernel
theorem dX4_event_15 : decode cX4_event 15 = .ok (.iload_n 2, 1) := by decide +kernel
theorem dX4_event_16 : decode cX4_event 16 = .ok (.aload_n 0, 1) := by decide +kernel
theorem dX4_event_17 : decode cX4_event 17 = .ok (.getfield 19, 3) := by decide +kernel
theorem dX4_event_20 : decode cX4_event 20 = .ok (.iload_n 1, 1) := by decide +kernel
theorem dX4_event_21 : decode cX4_event 21 = .ok (.iconst 5, 1) := by decide +kernel
theorem dX4_event_22 : decode cX4_event 22 = .ok (.invokevirtual 97, 3) := by decide +kernel
theorem dX4_event_25 : decode cX4_event 25 = .ok (.if_icmp .lt 5, 3) := by decide +kernel
theorem dX4_event_28 : decode cX4_event 28 = .ok (.iconst (-1), 1) := by decide +kernel
theorem dX4_event_29 : decode cX4_event 29 = .ok (.ireturn, 1) := by decide +kernel
theorem dX4_event_30 : decode cX4_event 30 = .ok (.iload_n 3, 1) := by decide +kernel
theorem dX4_event_31 : decode cX4_event 31 = .ok (.iconst 0, 1) := by decide +kernel
theorem dX4_event_32 : decode cX4_event 32 = .ok (.iconst 3, 1) := by decide +kernel
theorem dX4_event_33 : decode cX4_event 33 = .ok (.invokestatic 81, 3) := by decide +kernel
theorem dX4_event_36 : decode cX4_event 36 = .ok (.ifCond .ne 6, 3) := by decide +kernel
theorem dX4_event_39 : decode cX4_event 39 = .ok (.bipush (-2), 2) := by decide +kernel
theorem dX4_event_41 : decode cX4_event 41 = .ok (.ireturn, 1) := by decide +kernel
theorem dX4_event_42 : decode cX4_event 42 = .ok (.aload_n 0, 1) := by decide +kernel
theorem dX4_event_43 : decode cX4_event 43 = .ok (.getfield 19, 3) := by decide +kernel
theorem dX4_event_46 : decode cX4_event 46 = .ok (.iload_n 1, 1) := by decide +kernel
theorem dX4_event_47 : decode cX4_event 47 = .ok (.iload_n 2, 1) := by decide +kernel
theorem dX4_event_48 : decode cX4_event 48 = .ok (.iload_n 3, 1) := by decide +kernel
theorem dX4_event_49 : decode cX4_event 49 = .ok (.invokevirtual 109, 3) := by decide +kernel
theorem dX4_event_52 : decode cX4_event 52 = .ok (.ireturn, 1) := by decide +kernel
set_option maxRecDepth 20000 in
theorem ggX4_count_X2_promisesThatAre : GoodIn wsX4_count wsX2_promisesThatAre := goodIn_r _ [14, 15, 16, 17, 18, 13, 19, 20, 67, 68, 69, 70, 71, 72, 73] (by decide +kernel) (by decide +kernel)
set_option maxRecDepth 20000 in
theorem gX4_count_X2_promisesThatAre : GoodIn wsX4_count (wsV RX4 119 RX2 yX2_promisesThatAre wsX2_promisesThatAre) := goodIn_app (goodIn_of _ (by decide +kernel)) ggX4_count_X2_promisesThatAre
set_option maxRecDepth 20000 in
theorem ggX4_count_X2_visitsMade : GoodIn wsX4_count wsX2_visitsMade := goodIn_r _ [24, 25, 11, 12, 13, 14, 15, 16, 17, 18, 19, 20, 67, 68, 69, 70, 71, 72, 73] (by decide +kernel) (by decide +kernel)
set_option maxRecDepth 20000 in
theorem gX4_count_X2_visitsMade : GoodIn wsX4_count (wsV RX4 122 RX2 yX2_visitsMade wsX2_visitsMade) := goodIn_app (goodIn_of _ (by decide +kernel)) ggX4_count_X2_visitsMade
set_option maxRecDepth 20000 in
theorem ggX4_count_X2_sumOverVans : GoodIn wsX4_count wsX2_sumOverVans := goodIn_r _ [29, 30, 31, 32, 33, 13, 34, 35, 67, 68, 69, 70, 71, 72, 73] (by decide +kernel) (by decide +kernel)
set_option maxRecDepth 20000 in
theorem gX4_count_X2_sumOverVans : GoodIn wsX4_count (wsV RX4 126 RX2 yX2_sumOverVans wsX2_sumOverVans) := goodIn_app (goodIn_of _ (by decide +kernel)) ggX4_count_X2_sumOverVans
set_option maxRecDepth 20000 in
theorem ggX4_count_X2_lastFree : GoodIn wsX4_count wsX2_lastFree := goodIn_r _ [39, 30, 40, 41, 42, 43, 31, 32, 33, 13, 34, 35, 67, 68, 69, 70, 71, 72, 73] (by decide +kernel) (by decide +kernel)
set_option maxRecDepth 20000 in
theorem gX4_count_X2_lastFree : GoodIn wsX4_count (wsV RX4 129 RX2 yX2_lastFree wsX2_lastFree) := goodIn_app (goodIn_of _ (by decide +kernel)) ggX4_count_X2_lastFree
theorem dX4_count_0 : decode cX4_count 0 = .ok (.iload_n 1, 1) := by decide +kernel
theorem dX4_count_1 : decode cX4_count 1 = .ok (.tableswitch 228 0 15 #[79, 87, 95, 104, 113, 129, 138, 147, 156, 165, 174, 182, 192, 202, 212, 220], 79) := by decide +kernel
theorem dX4_count_80 : decode cX4_count 80 = .ok (.aload_n 0, 1) := by decide +kernel
theorem dX4_count_81 : decode cX4_count 81 = .ok (.getfield 12, 3) := by decide +kernel
theorem dX4_count_84 : decode cX4_count 84 = .ok (.getfield 112, 3) := by decide +kernel
theorem dX4_count_87 : decode cX4_count 87 = .ok (.ireturn, 1) := by decide +kernel
theorem dX4_count_88 : decode cX4_count 88 = .ok (.aload_n 0, 1) := by decide +kernel
theorem dX4_count_89 : decode cX4_count 89 = .ok (.getfield 12, 3) := by decide +kernel
theorem dX4_count_92 : decode cX4_count 92 = .ok (.getfield 116, 3) := by decide +kernel
theorem dX4_count_95 : decode cX4_count 95 = .ok (.ireturn, 1) := by decide +kernel
theorem dX4_count_96 : decode cX4_count 96 = .ok (.aload_n 0, 1) := by decide +kernel
theorem dX4_count_97 : decode cX4_count 97 = .ok (.getfield 19, 3) := by decide +kernel
theorem dX4_count_100 : decode cX4_count 100 = .ok (.iconst 0, 1) := by decide +kernel
theorem dX4_count_101 : decode cX4_count 101 = .ok (.invokevirtual 119, 3) := by decide +kernel
theorem dX4_count_104 : decode cX4_count 104 = .ok (.ireturn, 1) := by decide +kernel
theorem dX4_count_105 : decode cX4_count 105 = .ok (.aload_n 0, 1) := by decide +kernel
theorem dX4_count_106 : decode cX4_count 106 = .ok (.getfield 19, 3) := by decide +kernel
theorem dX4_count_109 : decode cX4_count 109 = .ok (.iconst 1, 1) := by decide +kernel
theorem dX4_count_110 : decode cX4_count 110 = .ok (.invokevirtual 119, 3) := by decide +kernel
theorem dX4_count_113 : decode cX4_count 113 = .ok (.ireturn, 1) := by decide +kernel
theorem dX4_count_114 : decode cX4_count 114 = .ok (.aload_n 0, 1) := by decide +kernel
theorem dX4_count_115 : decode cX4_count 115 = .ok (.getfield 12, 3) := by decide +kernel
theorem dX4_count_118 : decode cX4_count 118 = .ok (.getfield 112, 3) := by decide +kernel
theorem dX4_count_121 : decode cX4_count 121 = .ok (.aload_n 0, 1) := by decide +kernel
theorem dX4_count_122 : decode cX4_count 122 = .ok (.getfield 19, 3) := by decide +kernel
theorem dX4_count_125 : decode cX4_count 125 = .ok (.invokevirtual 122, 3) := by decide +kernel
theorem dX4_count_128 : decode cX4_count 128 = .ok (.isub, 1) := by decide +kernel
theorem dX4_count_129 : decode cX4_count 129 = .ok (.ireturn, 1) := by decide +kernel
theorem dX4_count_130 : decode cX4_count 130 = .ok (.aload_n 0, 1) := by decide +kernel
theorem dX4_count_131 : decode cX4_count 131 = .ok (.getfield 19, 3) := by decide +kernel
theorem dX4_count_134 : decode cX4_count 134 = .ok (.iconst 2, 1) := by decide +kernel
theorem dX4_count_135 : decode cX4_count 135 = .ok (.invokevirtual 119, 3) := by decide +kernel
theorem dX4_count_138 : decode cX4_count 138 = .ok (.ireturn, 1) := by decide +kernel
theorem dX4_count_139 : decode cX4_count 139 = .ok (.aload_n 0, 1) := by decide +kernel
theorem dX4_count_140 : decode cX4_count 140 = .ok (.getfield 19, 3) := by decide +kernel
theorem dX4_count_143 : decode cX4_count 143 = .ok (.iconst 3, 1) := by decide +kernel
theorem dX4_count_144 : decode cX4_count 144 = .ok (.invokevirtual 119, 3) := by decide +kernel
theorem dX4_count_147 : decode cX4_count 147 = .ok (.ireturn, 1) := by decide +kernel
theorem dX4_count_148 : decode cX4_count 148 = .ok (.aload_n 0, 1) := by decide +kernel
theorem dX4_count_149 : decode cX4_count 149 = .ok (.getfield 19, 3) := by decide +kernel
theorem dX4_count_152 : decode cX4_count 152 = .ok (.iconst 4, 1) := by decide +kernel
theorem dX4_count_153 : decode cX4_count 153 = .ok (.invokevirtual 119, 3) := by decide +kernel
theorem dX4_count_156 : decode cX4_count 156 = .ok (.ireturn, 1) := by decide +kernel
theorem dX4_count_157 : decode cX4_count 157 = .ok (.aload_n 0, 1) := by decide +kernel
theorem dX4_count_158 : decode cX4_count 158 = .ok (.getfield 19, 3) := by decide +kernel
theorem dX4_count_161 : decode cX4_count 161 = .ok (.iconst 1, 1) := by decide +kernel
theorem dX4_count_162 : decode cX4_count 162 = .ok (.invokevirtual 126, 3) := by decide +kernel
theorem dX4_count_165 : decode cX4_count 165 = .ok (.ireturn, 1) := by decide +kernel
theorem dX4_count_166 : decode cX4_count 166 = .ok (.aload_n 0, 1) := by decide +kernel
theorem dX4_count_167 : decode cX4_count 167 = .ok (.getfield 19, 3) := by decide +kernel
theorem dX4_count_170 : decode cX4_count 170 = .ok (.iconst 2, 1) := by decide +kernel
theorem dX4_count_171 : decode cX4_count 171 = .ok (.invokevirtual 126, 3) := by decide +kernel
theorem dX4_count_174 : decode cX4_count 174 = .ok (.ireturn, 1) := by decide +kernel
theorem dX4_count_175 : decode cX4_count 175 = .ok (.aload_n 0, 1) := by decide +kernel
theorem dX4_count_176 : decode cX4_count 176 = .ok (.getfield 19, 3) := by decide +kernel
theorem dX4_count_179 : decode cX4_count 179 = .ok (.invokevirtual 129, 3) := by decide +kernel
theorem dX4_count_182 : decode cX4_count 182 = .ok (.ireturn, 1) := by decide +kernel
theorem dX4_count_183 : decode cX4_count 183 = .ok (.aload_n 0, 1) := by decide +kernel
theorem dX4_count_184 : decode cX4_count 184 = .ok (.getfield 12, 3) := by decide +kernel
theorem dX4_count_187 : decode cX4_count 187 = .ok (.getfield 132, 3) := by decide +kernel
theorem dX4_count_190 : decode cX4_count 190 = .ok (.iconst 0, 1) := by decide +kernel
theorem dX4_count_191 : decode cX4_count 191 = .ok (.iaload, 1) := by decide +kernel
theorem dX4_count_192 : decode cX4_count 192 = .ok (.ireturn, 1) := by decide +kernel
theorem dX4_count_193 : decode cX4_count 193 = .ok (.aload_n 0, 1) := by decide +kernel
theorem dX4_count_194 : decode cX4_count 194 = .ok (.getfield 12, 3) := by decide +kernel
theorem dX4_count_197 : decode cX4_count 197 = .ok (.getfield 132, 3) := by decide +kernel
theorem dX4_count_200 : decode cX4_count 200 = .ok (.iconst 1, 1) := by decide +kernel
theorem dX4_count_201 : decode cX4_count 201 = .ok (.iaload, 1) := by decide +kernel
theorem dX4_count_202 : decode cX4_count 202 = .ok (.ireturn, 1) := by decide +kernel
theorem dX4_count_203 : decode cX4_count 203 = .ok (.aload_n 0, 1) := by decide +kernel
theorem dX4_count_204 : decode cX4_count 204 = .ok (.getfield 12, 3) := by decide +kernel
theorem dX4_count_207 : decode cX4_count 207 = .ok (.getfield 132, 3) := by decide +kernel
theorem dX4_count_210 : decode cX4_count 210 = .ok (.iconst 2, 1) := by decide +kernel
theorem dX4_count_211 : decode cX4_count 211 = .ok (.iaload, 1) := by decide +kernel
theorem dX4_count_212 : decode cX4_count 212 = .ok (.ireturn, 1) := by decide +kernel
theorem dX4_count_213 : decode cX4_count 213 = .ok (.aload_n 0, 1) := by decide +kernel
theorem dX4_count_214 : decode cX4_count 214 = .ok (.getfield 47, 3) := by decide +kernel
theorem dX4_count_217 : decode cX4_count 217 = .ok (.getfield 136, 3) := by decide +kernel
theorem dX4_count_220 : decode cX4_count 220 = .ok (.ireturn, 1) := by decide +kernel
theorem dX4_count_221 : decode cX4_count 221 = .ok (.aload_n 0, 1) := by decide +kernel
theorem dX4_count_222 : decode cX4_count 222 = .ok (.getfield 32, 3) := by decide +kernel
theorem dX4_count_225 : decode cX4_count 225 = .ok (.getfield 139, 3) := by decide +kernel
theorem dX4_count_228 : decode cX4_count 228 = .ok (.ireturn, 1) := by decide +kernel
theorem dX4_count_229 : decode cX4_count 229 = .ok (.bipush (-2), 2) := by decide +kernel
theorem dX4_count_231 : decode cX4_count 231 = .ok (.ireturn, 1) := by decide +kernel
set_option maxRecDepth 20000 in
theorem ggX4_wanted_X4_isPart : GoodIn wsX4_wanted wsX4_isPart := goodIn_r _ [7, 8, 9, 6, 10] (by decide +kernel) (by decide +kernel)
set_option maxRecDepth 20000 in
theorem gX4_wanted_X4_isPart : GoodIn wsX4_wanted (va_wsS RX4 100 yX4_isPart wsX4_isPart) := goodIn_app (goodIn_of _ (by decide +kernel)) ggX4_wanted_X4_isPart
set_option maxRecDepth 20000 in
theorem ggX4_wanted_X2_outcome : GoodIn wsX4_wanted wsX2_outcome := goodIn_r _ [15, 16, 37, 38, 39, 40, 41, 42, 43] (by decide +kernel) (by decide +kernel)
set_option maxRecDepth 20000 in
theorem gX4_wanted_X2_outcome : GoodIn wsX4_wanted (wsV RX4 88 RX2 yX2_outcome wsX2_outcome) := goodIn_app (goodIn_of _ (by decide +kernel)) ggX4_wanted_X2_outcome
set_option maxRecDepth 20000 in
theorem ggX4_wanted_X3_visitFact : GoodIn wsX4_wanted wsX3_visitFact := goodIn_r _ [21, 22, 31, 32, 33, 34, 35, 36] (by decide +kernel) (by decide +kernel)
set_option maxRecDepth 20000 in
theorem gX4_wanted_X3_visitFact : GoodIn wsX4_wanted (wsV RX4 85 RX3 yX3_visitFact wsX3_visitFact) := goodIn_app (goodIn_of _ (by decide +kernel)) ggX4_wanted_X3_visitFact
theorem dX4_wanted_0 : decode cX4_wanted 0 = .ok (.iload_n 1, 1) := by decide +kernel
theorem dX4_wanted_1 : decode cX4_wanted 1 = .ok (.invokestatic 100, 3) := by decide +kernel
theorem dX4_wanted_4 : decode cX4_wanted 4 = .ok (.ifCond .ne 5, 3) := by decide +kernel
theorem dX4_wanted_7 : decode cX4_wanted 7 = .ok (.iconst (-1), 1) := by decide +kernel
theorem dX4_wanted_8 : decode cX4_wanted 8 = .ok (.ireturn, 1) := by decide +kernel
theorem dX4_wanted_9 : decode cX4_wanted 9 = .ok (.iconst 0, 1) := by decide +kernel
theorem dX4_wanted_10 : decode cX4_wanted 10 = .ok (.istore_n 2, 1) := by decide +kernel
theorem dX4_wanted_11 : decode cX4_wanted 11 = .ok (.iconst 0, 1) := by decide +kernel
theorem dX4_wanted_12 : decode cX4_wanted 12 = .ok (.istore_n 3, 1) := by decide +kernel
theorem dX4_wanted_13 : decode cX4_wanted 13 = .ok (.iload_n 3, 1) := by decide +kernel
theorem dX4_wanted_14 : decode cX4_wanted 14 = .ok (.aload_n 0, 1) := by decide +kernel
theorem dX4_wanted_15 : decode cX4_wanted 15 = .ok (.getfield 12, 3) := by decide +kernel
theorem dX4_wanted_18 : decode cX4_wanted 18 = .ok (.getfield 112, 3) := by decide +kernel
theorem dX4_wanted_21 : decode cX4_wanted 21 = .ok (.if_icmp .ge 47, 3) := by decide +kernel
theorem dX4_wanted_24 : decode cX4_wanted 24 = .ok (.aload_n 0, 1) := by decide +kernel
theorem dX4_wanted_25 : decode cX4_wanted 25 = .ok (.getfield 19, 3) := by decide +kernel
theorem dX4_wanted_28 : decode cX4_wanted 28 = .ok (.iload_n 3, 1) := by decide +kernel
theorem dX4_wanted_29 : decode cX4_wanted 29 = .ok (.iconst 0, 1) := by decide +kernel
theorem dX4_wanted_30 : decode cX4_wanted 30 = .ok (.invokevirtual 88, 3) := by decide +kernel
theorem dX4_wanted_33 : decode cX4_wanted 33 = .ok (.iconst 3, 1) := by decide +kernel
theorem dX4_wanted_34 : decode cX4_wanted 34 = .ok (.if_icmp .ne 28, 3) := by decide +kernel
theorem dX4_wanted_37 : decode cX4_wanted 37 = .ok (.aload_n 0, 1) := by decide +kernel
theorem dX4_wanted_38 : decode cX4_wanted 38 = .ok (.getfield 12, 3) := by decide +kernel
theorem dX4_wanted_41 : decode cX4_wanted 41 = .ok (.iload_n 3, 1) := by decide +kernel
theorem dX4_wanted_42 : decode cX4_wanted 42 = .ok (.iconst 2, 1) := by decide +kernel
theorem dX4_wanted_43 : decode cX4_wanted 43 = .ok (.invokevirtual 85, 3) := by decide +kernel
theorem dX4_wanted_46 : decode cX4_wanted 46 = .ok (.iload_n 1, 1) := by decide +kernel
theorem dX4_wanted_47 : decode cX4_wanted 47 = .ok (.if_icmp .ne 15, 3) := by decide +kernel
theorem dX4_wanted_50 : decode cX4_wanted 50 = .ok (.iload_n 2, 1) := by decide +kernel
theorem dX4_wanted_51 : decode cX4_wanted 51 = .ok (.aload_n 0, 1) := by decide +kernel
theorem dX4_wanted_52 : decode cX4_wanted 52 = .ok (.getfield 12, 3) := by decide +kernel
theorem dX4_wanted_55 : decode cX4_wanted 55 = .ok (.iload_n 3, 1) := by decide +kernel
theorem dX4_wanted_56 : decode cX4_wanted 56 = .ok (.iconst 3, 1) := by decide +kernel
theorem dX4_wanted_57 : decode cX4_wanted 57 = .ok (.invokevirtual 85, 3) := by decide +kernel
theorem dX4_wanted_60 : decode cX4_wanted 60 = .ok (.iadd, 1) := by decide +kernel
theorem dX4_wanted_61 : decode cX4_wanted 61 = .ok (.istore_n 2, 1) := by decide +kernel
theorem dX4_wanted_62 : decode cX4_wanted 62 = .ok (.iinc 3 1, 3) := by decide +kernel
theorem dX4_wanted_65 : decode cX4_wanted 65 = .ok (.goto (-52), 3) := by decide +kernel
theorem dX4_wanted_68 : decode cX4_wanted 68 = .ok (.iload_n 2, 1) := by decide +kernel
theorem dX4_wanted_69 : decode cX4_wanted 69 = .ok (.ireturn, 1) := by decide +kernel
set_option maxRecDepth 20000 in
theorem ggX4_share_X2_visitsMade : GoodIn wsX4_share wsX2_visitsMade := goodIn_r _ [8, 9, 10, 11, 7, 12, 13, 14, 15, 16, 17, 18, 38, 39, 40, 41, 42, 43, 44] (by decide +kernel) (by decide +kernel)
set_option maxRecDepth 20000 in
theorem gX4_share_X2_visitsMade : GoodIn wsX4_share (wsV RX4 122 RX2 yX2_visitsMade wsX2_visitsMade) := goodIn_app (goodIn_of _ (by decide +kernel)) ggX4_share_X2_visitsMade
set_option maxRecDepth 20000 in
theorem ggX4_share_X4_bitsOf : GoodIn wsX4_share wsX4_bitsOf := goodIn_r _ [22, 23] (by decide +kernel) (by decide +kernel)
set_option maxRecDepth 20000 in
theorem gX4_share_X4_bitsOf : GoodIn wsX4_share (va_wsS RX4 142 yX4_bitsOf wsX4_bitsOf) := goodIn_app (goodIn_of _ (by decide +kernel)) ggX4_share_X4_bitsOf
theorem dX4_share_0 : decode cX4_share 0 = .ok (.aload_n 0, 1) := by decide +kernel
theorem dX4_share_1 : decode cX4_share 1 = .ok (.getfield 12, 3) := by decide +kernel
theorem dX4_share_4 : decode cX4_share 4 = .ok (.getfield 112, 3) := by decide +kernel
theorem dX4_share_7 : decode cX4_share 7 = .ok (.ifCond .ne 6, 3) := by decide +kernel
theorem dX4_share_10 : decode cX4_share 10 = .ok (.bipush (-6), 2) := by decide +kernel
theorem dX4_share_12 : decode cX4_share 12 = .ok (.ireturn, 1) := by decide +kernel
theorem dX4_share_13 : decode cX4_share 13 = .ok (.aload_n 0, 1) := by decide +kernel
theorem dX4_share_14 : decode cX4_share 14 = .ok (.getfield 19, 3) := by decide +kernel
theorem dX4_share_17 : decode cX4_share 17 = .ok (.invokevirtual 122, 3) := by decide +kernel
theorem dX4_share_20 : decode cX4_share 20 = .ok (.i2f, 1) := by decide +kernel
theorem dX4_share_21 : decode cX4_share 21 = .ok (.aload_n 0, 1) := by decide +kernel
theorem dX4_share_22 : decode cX4_share 22 = .ok (.getfield 12, 3) := by decide +kernel
theorem dX4_share_25 : decode cX4_share 25 = .ok (.getfield 112, 3) := by decide +kernel
theorem dX4_share_28 : decode cX4_share 28 = .ok (.i2f, 1) := by decide +kernel
theorem dX4_share_29 : decode cX4_share 29 = .ok (.fdiv, 1) := by decide +kernel
theorem dX4_share_30 : decode cX4_share 30 = .ok (.fstore_n 1, 1) := by decide +kernel
theorem dX4_share_31 : decode cX4_share 31 = .ok (.fload_n 1, 1) := by decide +kernel
theorem dX4_share_32 : decode cX4_share 32 = .ok (.f2d, 1) := by decide +kernel
theorem dX4_share_33 : decode cX4_share 33 = .ok (.bipush 23, 2) := by decide +kernel
theorem dX4_share_35 : decode cX4_share 35 = .ok (.bipush 127, 2) := by decide +kernel
theorem dX4_share_37 : decode cX4_share 37 = .ok (.invokestatic 142, 3) := by decide +kernel
theorem dX4_share_40 : decode cX4_share 40 = .ok (.l2i, 1) := by decide +kernel
theorem dX4_share_41 : decode cX4_share 41 = .ok (.ireturn, 1) := by decide +kernel
set_option maxRecDepth 20000 in
theorem ggX4_meanWay_X2_visitsMade : GoodIn wsX4_meanWay wsX2_visitsMade := goodIn_r _ [7, 8, 9, 10, 6, 11, 12, 13, 14, 15, 16, 17, 41, 42, 43, 44, 45, 46, 47] (by decide +kernel) (by decide +kernel)
set_option maxRecDepth 20000 in
theorem gX4_meanWay_X2_visitsMade : GoodIn wsX4_meanWay (wsV RX4 122 RX2 yX2_visitsMade wsX2_visitsMade) := goodIn_app (goodIn_of _ (by decide +kernel)) ggX4_meanWay_X2_visitsMade
set_option maxRecDepth 20000 in
theorem ggX4_meanWay_X2_sumOverVans : GoodIn wsX4_meanWay wsX2_sumOverVans := goodIn_r _ [21, 22, 23, 24, 25, 6, 26, 27, 41, 42, 43, 44, 45, 46, 47] (by decide +kernel) (by decide +kernel)
set_option maxRecDepth 20000 in
theorem gX4_meanWay_X2_sumOverVans : GoodIn wsX4_meanWay (wsV RX4 126 RX2 yX2_sumOverVans wsX2_sumOverVans) := goodIn_app (goodIn_of _ (by decide +kernel)) ggX4_meanWay_X2_sumOverVans
set_option maxRecDepth 20000 in
theorem ggX4_meanWay_X4_bitsOf : GoodIn wsX4_meanWay wsX4_bitsOf := goodIn_r _ [31, 32] (by decide +kernel) (by decide +kernel)
set_option maxRecDepth 20000 in
theorem gX4_meanWay_X4_bitsOf : GoodIn wsX4_meanWay (va_wsS RX4 142 yX4_bitsOf wsX4_bitsOf) := goodIn_app (goodIn_of _ (by decide +kernel)) ggX4_meanWay_X4_bitsOf
theorem dX4_meanWay_0 : decode cX4_meanWay 0 = .ok (.iload_n 1, 1) := by decide +kernel
theorem dX4_meanWay_1 : decode cX4_meanWay 1 = .ok (.ifCond .eq 12, 3) := by decide +kernel
theorem dX4_meanWay_4 : decode cX4_meanWay 4 = .ok (.iload_n 1, 1) := by decide +kernel
theorem dX4_meanWay_5 : decode cX4_meanWay 5 = .ok (.iconst 1, 1) := by decide +kernel
theorem dX4_meanWay_6 : decode cX4_meanWay 6 = .ok (.if_icmp .eq 7, 3) := by decide +kernel
theorem dX4_meanWay_9 : decode cX4_meanWay 9 = .ok (.ldc2_w 146, 3) := by decide +kernel
theorem dX4_meanWay_12 : decode cX4_meanWay 12 = .ok (.lreturn, 1) := by decide +kernel
theorem dX4_meanWay_13 : decode cX4_meanWay 13 = .ok (.aload_n 0, 1) := by decide +kernel
theorem dX4_meanWay_14 : decode cX4_meanWay 14 = .ok (.getfield 19, 3) := by decide +kernel
theorem dX4_meanWay_17 : decode cX4_meanWay 17 = .ok (.invokevirtual 122, 3) := by decide +kernel
theorem dX4_meanWay_20 : decode cX4_meanWay 20 = .ok (.istore_n 2, 1) := by decide +kernel
theorem dX4_meanWay_21 : decode cX4_meanWay 21 = .ok (.iload_n 2, 1) := by decide +kernel
theorem dX4_meanWay_22 : decode cX4_meanWay 22 = .ok (.ifCond .ne 5, 3) := by decide +kernel
theorem dX4_meanWay_25 : decode cX4_meanWay 25 = .ok (.lconst 0, 1) := by decide +kernel
theorem dX4_meanWay_26 : decode cX4_meanWay 26 = .ok (.lreturn, 1) := by decide +kernel
theorem dX4_meanWay_27 : decode cX4_meanWay 27 = .ok (.aload_n 0, 1) := by decide +kernel
theorem dX4_meanWay_28 : decode cX4_meanWay 28 = .ok (.getfield 19, 3) := by decide +kernel
theorem dX4_meanWay_31 : decode cX4_meanWay 31 = .ok (.iconst 1, 1) := by decide +kernel
theorem dX4_meanWay_32 : decode cX4_meanWay 32 = .ok (.invokevirtual 126, 3) := by decide +kernel
theorem dX4_meanWay_35 : decode cX4_meanWay 35 = .ok (.i2d, 1) := by decide +kernel
theorem dX4_meanWay_36 : decode cX4_meanWay 36 = .ok (.iload_n 2, 1) := by decide +kernel
theorem dX4_meanWay_37 : decode cX4_meanWay 37 = .ok (.i2d, 1) := by decide +kernel
theorem dX4_meanWay_38 : decode cX4_meanWay 38 = .ok (.ddiv, 1) := by decide +kernel
theorem dX4_meanWay_39 : decode cX4_meanWay 39 = .ok (.dstore_n 3, 1) := by decide +kernel
theorem dX4_meanWay_40 : decode cX4_meanWay 40 = .ok (.iload_n 1, 1) := by decide +kernel
theorem dX4_meanWay_41 : decode cX4_meanWay 41 = .ok (.ifCond .ne 7, 3) := by decide +kernel
theorem dX4_meanWay_44 : decode cX4_meanWay 44 = .ok (.dload_n 3, 1) := by decide +kernel
theorem dX4_meanWay_45 : decode cX4_meanWay 45 = .ok (.goto 8, 3) := by decide +kernel
theorem dX4_meanWay_48 : decode cX4_meanWay 48 = .ok (.dload_n 3, 1) := by decide +kernel
theorem dX4_meanWay_49 : decode cX4_meanWay 49 = .ok (.dload_n 3, 1) := by decide +kernel
theorem dX4_meanWay_50 : decode cX4_meanWay 50 = .ok (.d2l, 1) := by decide +kernel
theorem dX4_meanWay_51 : decode cX4_meanWay 51 = .ok (.l2d, 1) := by decide +kernel
theorem dX4_meanWay_52 : decode cX4_meanWay 52 = .ok (.dsub, 1) := by decide +kernel
theorem dX4_meanWay_53 : decode cX4_meanWay 53 = .ok (.dstore 5, 2) := by decide +kernel
theorem dX4_meanWay_55 : decode cX4_meanWay 55 = .ok (.dload 5, 2) := by decide +kernel
theorem dX4_meanWay_57 : decode cX4_meanWay 57 = .ok (.bipush 52, 2) := by decide +kernel
theorem dX4_meanWay_59 : decode cX4_meanWay 59 = .ok (.sipush 1023, 3) := by decide +kernel
theorem dX4_meanWay_62 : decode cX4_meanWay 62 = .ok (.invokestatic 142, 3) := by decide +kernel
theorem dX4_meanWay_65 : decode cX4_meanWay 65 = .ok (.lreturn, 1) := by decide +kernel
set_option maxRecDepth 20000 in
theorem ggX4_would_X4_visitError : GoodIn wsX4_would wsX4_visitError := goodIn_r _ [7, 8, 9, 6, 10, 11, 12, 13] (by decide +kernel) (by decide +kernel)
set_option maxRecDepth 20000 in
theorem gX4_would_X4_visitError : GoodIn wsX4_would (va_wsS RX4 148 yX4_visitError wsX4_visitError) := goodIn_app (goodIn_of _ (by decide +kernel)) ggX4_would_X4_visitError
set_option maxRecDepth 20000 in
theorem ggX4_would_X3_copyFrom : GoodIn wsX4_would wsX3_copyFrom := goodIn_r _ [18, 19, 20, 21, 22, 23, 24, 25, 26, 27, 28, 132, 133, 134, 135, 136, 137] (by decide +kernel) (by decide +kernel)
set_option maxRecDepth 20000 in
theorem gX4_would_X3_copyFrom : GoodIn wsX4_would (wsV RX4 151 RX3 yX3_copyFrom wsX3_copyFrom) := goodIn_app (goodIn_of _ (by decide +kernel)) ggX4_would_X3_copyFrom
set_option maxRecDepth 20000 in
theorem ggX4_would_X3_putVisit : GoodIn wsX4_would wsX3_putVisit := goodIn_r _ [32, 27, 24, 132, 133, 134, 135, 136, 137] (by decide +kernel) (by decide +kernel)
set_option maxRecDepth 20000 in
theorem gX4_would_X3_putVisit : GoodIn wsX4_would (wsV RX4 154 RX3 yX3_putVisit wsX3_putVisit) := goodIn_app (goodIn_of _ (by decide +kernel)) ggX4_would_X3_putVisit
set_option maxRecDepth 20000 in
theorem ggX4_would_X2_make : GoodIn wsX4_would wsX2_make := goodIn_r _ [37, 38, 39, 40, 41, 42, 43, 44, 45, 36, 46, 47, 48, 49, 50, 51, 17, 52, 25, 53, 54, 55, 56, 26, 57, 58, 59, 60, 61, 62, 63, 64, 24, 65, 66, 67, 68, 69, 70, 71, 72, 73, 74, 75, 76, 77, 78, 79, 80, 81, 82, 83, 84, 85, 86, 87, 88, 89, 90, 91, 92, 93, 94, 95, 96, 97, 98, 99, 100, 101, 102, 103, 104, 105, 106, 107, 108, 109, 110, 111, 112, 113, 114, 115, 116, 117, 118, 119, 120, 121, 122, 132, 133, 134, 135, 136, 137, 138, 139, 140, 141, 142, 143, 144] (by decide +kernel) (by decide +kernel)
set_option maxRecDepth 20000 in
theorem gX4_would_X2_make : GoodIn wsX4_would (wsV RX4 157 RX2 yX2_make wsX2_make) := goodIn_app (goodIn_of _ (by decide +kernel)) ggX4_would_X2_make
set_option maxRecDepth 20000 in
theorem ggX4_would_X2_outcome : GoodIn wsX4_would wsX2_outcome := goodIn_r _ [117, 109, 138, 139, 140, 141, 142, 143, 144] (by decide +kernel) (by decide +kernel)
set_option maxRecDepth 20000 in
theorem gX4_would_X2_outcome : GoodIn wsX4_would (wsV RX4 88 RX2 yX2_outcome wsX2_outcome) := goodIn_app (goodIn_of _ (by decide +kernel)) ggX4_would_X2_outcome
theorem dX4_would_0 : decode cX4_would 0 = .ok (.iload_n 1, 1) := by decide +kernel
theorem dX4_would_1 : decode cX4_would 1 = .ok (.iload_n 2, 1) := by decide +kernel
theorem dX4_would_2 : decode cX4_would 2 = .ok (.iload_n 3, 1) := by decide +kernel
theorem dX4_would_3 : decode cX4_would 3 = .ok (.iload 4, 2) := by decide +kernel
theorem dX4_would_5 : decode cX4_would 5 = .ok (.iload 5, 2) := by decide +kernel
theorem dX4_would_7 : decode cX4_would 7 = .ok (.iload 6, 2) := by decide +kernel
theorem dX4_would_9 : decode cX4_would 9 = .ok (.invokestatic 148, 3) := by decide +kernel
theorem dX4_would_12 : decode cX4_would 12 = .ok (.istore 7, 2) := by decide +kernel
theorem dX4_would_14 : decode cX4_would 14 = .ok (.iload 7, 2) := by decide +kernel
theorem dX4_would_16 : decode cX4_would 16 = .ok (.ifCond .eq 6, 3) := by decide +kernel
theorem dX4_would_19 : decode cX4_would 19 = .ok (.iload 7, 2) := by decide +kernel
theorem dX4_would_21 : decode cX4_would 21 = .ok (.ireturn, 1) := by decide +kernel
theorem dX4_would_22 : decode cX4_would 22 = .ok (.aload_n 0, 1) := by decide +kernel
theorem dX4_would_23 : decode cX4_would 23 = .ok (.getfield 23, 3) := by decide +kernel
theorem dX4_would_26 : decode cX4_would 26 = .ok (.aload_n 0, 1) := by decide +kernel
theorem dX4_would_27 : decode cX4_would 27 = .ok (.getfield 12, 3) := by decide +kernel
theorem dX4_would_30 : decode cX4_would 30 = .ok (.invokevirtual 151, 3) := by decide +kernel
theorem dX4_would_33 : decode cX4_would 33 = .ok (.aload_n 0, 1) := by decide +kernel
theorem dX4_would_34 : decode cX4_would 34 = .ok (.getfield 23, 3) := by decide +kernel
theorem dX4_would_37 : decode cX4_would 37 = .ok (.iload_n 1, 1) := by decide +kernel
theorem dX4_would_38 : decode cX4_would 38 = .ok (.iload_n 2, 1) := by decide +kernel
theorem dX4_would_39 : decode cX4_would 39 = .ok (.iload_n 3, 1) := by decide +kernel
theorem dX4_would_40 : decode cX4_would 40 = .ok (.iload 4, 2) := by decide +kernel
theorem dX4_would_42 : decode cX4_would 42 = .ok (.iload 5, 2) := by decide +kernel
theorem dX4_would_44 : decode cX4_would 44 = .ok (.iload 6, 2) := by decide +kernel
theorem dX4_would_46 : decode cX4_would 46 = .ok (.invokevirtual 154, 3) := by decide +kernel
theorem dX4_would_49 : decode cX4_would 49 = .ok (.istore 8, 2) := by decide +kernel
theorem dX4_would_51 : decode cX4_would 51 = .ok (.aload_n 0, 1) := by decide +kernel
theorem dX4_would_52 : decode cX4_would 52 = .ok (.getfield 26, 3) := by decide +kernel
theorem dX4_would_55 : decode cX4_would 55 = .ok (.aload_n 0, 1) := by decide +kernel
theorem dX4_would_56 : decode cX4_would 56 = .ok (.getfield 23, 3) := by decide +kernel
theorem dX4_would_59 : decode cX4_would 59 = .ok (.invokevirtual 157, 3) := by decide +kernel
theorem dX4_would_62 : decode cX4_would 62 = .ok (.aload_n 0, 1) := by decide +kernel
theorem dX4_would_63 : decode cX4_would 63 = .ok (.getfield 26, 3) := by decide +kernel
theorem dX4_would_66 : decode cX4_would 66 = .ok (.iload 8, 2) := by decide +kernel
theorem dX4_would_68 : decode cX4_would 68 = .ok (.iconst 0, 1) := by decide +kernel
theorem dX4_would_69 : decode cX4_would 69 = .ok (.invokevirtual 88, 3) := by decide +kernel
theorem dX4_would_72 : decode cX4_would 72 = .ok (.ireturn, 1) := by decide +kernel
set_option maxRecDepth 20000 in
theorem ggX4_withVan_X3_copyFrom : GoodIn wsX4_withVan wsX3_copyFrom := goodIn_r _ [8, 9, 10, 11, 12, 13, 14, 15, 16, 17, 18, 143, 144, 145, 146, 147, 148] (by decide +kernel) (by decide +kernel)
set_option maxRecDepth 20000 in
theorem gX4_withVan_X3_copyFrom : GoodIn wsX4_withVan (wsV RX4 151 RX3 yX3_copyFrom wsX3_copyFrom) := goodIn_app (goodIn_of _ (by decide +kernel)) ggX4_withVan_X3_copyFrom
set_option maxRecDepth 20000 in
theorem ggX4_withVan_X3_addVan : GoodIn wsX4_withVan wsX3_addVan := goodIn_r _ [22, 18, 15, 23, 24, 25, 143, 144, 145, 146, 147, 148] (by decide +kernel) (by decide +kernel)
set_option maxRecDepth 20000 in
theorem gX4_withVan_X3_addVan : GoodIn wsX4_withVan (wsV RX4 70 RX3 yX3_addVan wsX3_addVan) := goodIn_app (goodIn_of _ (by decide +kernel)) ggX4_withVan_X3_addVan
set_option maxRecDepth 20000 in
theorem ggX4_withVan_X3_changeStock : GoodIn wsX4_withVan wsX3_changeStock := goodIn_r _ [29, 16, 30, 31, 32, 7, 33, 18, 34, 24, 35, 36, 23, 25, 143, 144, 145, 146, 147, 148] (by decide +kernel) (by decide +kernel)
set_option maxRecDepth 20000 in
theorem gX4_withVan_X3_changeStock : GoodIn wsX4_withVan (wsV RX4 73 RX3 yX3_changeStock wsX3_changeStock) := goodIn_app (goodIn_of _ (by decide +kernel)) ggX4_withVan_X3_changeStock
set_option maxRecDepth 20000 in
theorem ggX4_withVan_X2_make : GoodIn wsX4_withVan wsX2_make := goodIn_r _ [41, 42, 43, 44, 45, 46, 47, 48, 49, 40, 50, 51, 52, 53, 54, 55, 7, 56, 15, 57, 58, 59, 60, 16, 61, 62, 63, 64, 65, 66, 67, 68, 14, 69, 70, 71, 72, 73, 74, 75, 76, 77, 78, 79, 80, 81, 82, 83, 84, 85, 86, 87, 88, 89, 90, 91, 92, 93, 94, 95, 96, 97, 98, 99, 100, 101, 102, 103, 104, 105, 106, 107, 108, 109, 110, 111, 112, 113, 114, 115, 116, 117, 118, 119, 120, 121, 122, 123, 124, 125, 126, 143, 144, 145, 146, 147, 148, 149, 150, 151, 152, 153, 154, 155] (by decide +kernel) (by decide +kernel)
set_option maxRecDepth 20000 in
theorem gX4_withVan_X2_make : GoodIn wsX4_withVan (wsV RX4 157 RX2 yX2_make wsX2_make) := goodIn_app (goodIn_of _ (by decide +kernel)) ggX4_withVan_X2_make
set_option maxRecDepth 20000 in
theorem ggX4_withVan_X2_visitsMade : GoodIn wsX4_withVan wsX2_visitsMade := goodIn_r _ [130, 131, 132, 133, 40, 134, 43, 118, 119, 120, 121, 113, 149, 150, 151, 152, 153, 154, 155] (by decide +kernel) (by decide +kernel)
set_option maxRecDepth 20000 in
theorem gX4_withVan_X2_visitsMade : GoodIn wsX4_withVan (wsV RX4 122 RX2 yX2_visitsMade wsX2_visitsMade) := goodIn_app (goodIn_of _ (by decide +kernel)) ggX4_withVan_X2_visitsMade
theorem dX4_withVan_0 : decode cX4_withVan 0 = .ok (.aload_n 0, 1) := by decide +kernel
theorem dX4_withVan_1 : decode cX4_withVan 1 = .ok (.getfield 23, 3) := by decide +kernel
theorem dX4_withVan_4 : decode cX4_withVan 4 = .ok (.aload_n 0, 1) := by decide +kernel
theorem dX4_withVan_5 : decode cX4_withVan 5 = .ok (.getfield 12, 3) := by decide +kernel
theorem dX4_withVan_8 : decode cX4_withVan 8 = .ok (.invokevirtual 151, 3) := by decide +kernel
theorem dX4_withVan_11 : decode cX4_withVan 11 = .ok (.aload_n 0, 1) := by decide +kernel
theorem dX4_withVan_12 : decode cX4_withVan 12 = .ok (.getfield 23, 3) := by decide +kernel
theorem dX4_withVan_15 : decode cX4_withVan 15 = .ok (.iload_n 1, 1) := by decide +kernel
theorem dX4_withVan_16 : decode cX4_withVan 16 = .ok (.iload_n 2, 1) := by decide +kernel
theorem dX4_withVan_17 : decode cX4_withVan 17 = .ok (.invokevirtual 70, 3) := by decide +kernel
theorem dX4_withVan_20 : decode cX4_withVan 20 = .ok (.istore_n 3, 1) := by decide +kernel
theorem dX4_withVan_21 : decode cX4_withVan 21 = .ok (.iload_n 3, 1) := by decide +kernel
theorem dX4_withVan_22 : decode cX4_withVan 22 = .ok (.ifCond .ge 5, 3) := by decide +kernel
theorem dX4_withVan_25 : decode cX4_withVan 25 = .ok (.iload_n 3, 1) := by decide +kernel
theorem dX4_withVan_26 : decode cX4_withVan 26 = .ok (.ireturn, 1) := by decide +kernel
theorem dX4_withVan_27 : decode cX4_withVan 27 = .ok (.iconst 0, 1) := by decide +kernel
theorem dX4_withVan_28 : decode cX4_withVan 28 = .ok (.istore 4, 2) := by decide +kernel
theorem dX4_withVan_30 : decode cX4_withVan 30 = .ok (.iload 4, 2) := by decide +kernel
theorem dX4_withVan_32 : decode cX4_withVan 32 = .ok (.iconst 5, 1) := by decide +kernel
theorem dX4_withVan_33 : decode cX4_withVan 33 = .ok (.if_icmp .ge 22, 3) := by decide +kernel
theorem dX4_withVan_36 : decode cX4_withVan 36 = .ok (.aload_n 0, 1) := by decide +kernel
theorem dX4_withVan_37 : decode cX4_withVan 37 = .ok (.getfield 23, 3) := by decide +kernel
theorem dX4_withVan_40 : decode cX4_withVan 40 = .ok (.iload_n 3, 1) := by decide +kernel
theorem dX4_withVan_41 : decode cX4_withVan 41 = .ok (.iload 4, 2) := by decide +kernel
theorem dX4_withVan_43 : decode cX4_withVan 43 = .ok (.bipush 99, 2) := by decide +kernel
theorem dX4_withVan_45 : decode cX4_withVan 45 = .ok (.invokevirtual 73, 3) := by decide +kernel
theorem dX4_withVan_48 : decode cX4_withVan 48 = .ok (.pop, 1) := by decide +kernel
theorem dX4_withVan_49 : decode cX4_withVan 49 = .ok (.iinc 4 1, 3) := by decide +kernel
theorem dX4_withVan_52 : decode cX4_withVan 52 = .ok (.goto (-22), 3) := by decide +kernel
theorem dX4_withVan_55 : decode cX4_withVan 55 = .ok (.aload_n 0, 1) := by decide +kernel
theorem dX4_withVan_56 : decode cX4_withVan 56 = .ok (.getfield 26, 3) := by decide +kernel
theorem dX4_withVan_59 : decode cX4_withVan 59 = .ok (.aload_n 0, 1) := by decide +kernel
theorem dX4_withVan_60 : decode cX4_withVan 60 = .ok (.getfield 23, 3) := by decide +kernel
theorem dX4_withVan_63 : decode cX4_withVan 63 = .ok (.invokevirtual 157, 3) := by decide +kernel
theorem dX4_withVan_66 : decode cX4_withVan 66 = .ok (.aload_n 0, 1) := by decide +kernel
theorem dX4_withVan_67 : decode cX4_withVan 67 = .ok (.getfield 26, 3) := by decide +kernel
theorem dX4_withVan_70 : decode cX4_withVan 70 = .ok (.invokevirtual 122, 3) := by decide +kernel
theorem dX4_withVan_73 : decode cX4_withVan 73 = .ok (.ireturn, 1) := by decide +kernel
set_option maxRecDepth 20000 in
theorem ggX4_slowest_X4_madeAtPace : GoodIn wsX4_slowest wsX4_madeAtPace := goodIn_r _ [7, 8, 9, 10, 11, 12, 13, 14, 15, 16, 17, 18, 19, 20, 21, 22, 23, 24, 25, 26, 27, 28, 29, 30, 6, 31, 32, 33, 34, 35, 36, 37, 38, 39, 40, 41, 42, 43, 44, 45, 46, 47, 48, 49, 50, 51, 52, 53, 54, 55, 56, 57, 58, 59, 60, 61, 62, 63, 64, 65, 66, 67, 68, 69, 70, 71, 72, 73, 74, 75, 76, 77, 78, 79, 80, 81, 82, 83, 84, 85, 86, 87, 88, 89, 90, 91, 92, 93, 94, 95, 96, 97, 98, 99, 100, 101, 102, 103, 104, 105, 106, 107, 108, 109, 110, 111, 112, 113, 114, 115, 116, 117, 118, 119, 120, 121, 122, 123, 124, 125, 126, 127, 128, 129, 130, 131, 132, 133, 134, 135, 136, 137, 138, 139, 140, 141, 142, 143, 144, 145, 146, 147, 148, 149, 150] (by decide +kernel) (by decide +kernel)
set_option maxRecDepth 20000 in
theorem gX4_slowest_X4_madeAtPace : GoodIn wsX4_slowest (wsV RX4 163 RX4 yX4_madeAtPace wsX4_madeAtPace) := goodIn_app (goodIn_of _ (by decide +kernel)) ggX4_slowest_X4_madeAtPace
theorem dX4_slowest_0 : decode cX4_slowest 0 = .ok (.getstatic 160, 3) := by decide +kernel
theorem dX4_slowest_3 : decode cX4_slowest 3 = .ok (.iconst 0, 1) := by decide +kernel
theorem dX4_slowest_4 : decode cX4_slowest 4 = .ok (.iaload, 1) := by decide +kernel
theorem dX4_slowest_5 : decode cX4_slowest 5 = .ok (.istore_n 1, 1) := by decide +kernel
theorem dX4_slowest_6 : decode cX4_slowest 6 = .ok (.aload_n 0, 1) := by decide +kernel
theorem dX4_slowest_7 : decode cX4_slowest 7 = .ok (.iload_n 1, 1) := by decide +kernel
theorem dX4_slowest_8 : decode cX4_slowest 8 = .ok (.invokevirtual 163, 3) := by decide +kernel
theorem dX4_slowest_11 : decode cX4_slowest 11 = .ok (.istore_n 2, 1) := by decide +kernel
theorem dX4_slowest_12 : decode cX4_slowest 12 = .ok (.getstatic 166, 3) := by decide +kernel
theorem dX4_slowest_15 : decode cX4_slowest 15 = .ok (.iconst 0, 1) := by decide +kernel
theorem dX4_slowest_16 : decode cX4_slowest 16 = .ok (.iaload, 1) := by decide +kernel
theorem dX4_slowest_17 : decode cX4_slowest 17 = .ok (.istore_n 3, 1) := by decide +kernel
theorem dX4_slowest_18 : decode cX4_slowest 18 = .ok (.iload_n 3, 1) := by decide +kernel
theorem dX4_slowest_19 : decode cX4_slowest 19 = .ok (.iload_n 1, 1) := by decide +kernel
theorem dX4_slowest_20 : decode cX4_slowest 20 = .ok (.if_icmp .le 20, 3) := by decide +kernel
theorem dX4_slowest_23 : decode cX4_slowest 23 = .ok (.aload_n 0, 1) := by decide +kernel
theorem dX4_slowest_24 : decode cX4_slowest 24 = .ok (.iload_n 3, 1) := by decide +kernel
theorem dX4_slowest_25 : decode cX4_slowest 25 = .ok (.invokevirtual 163, 3) := by decide +kernel
theorem dX4_slowest_28 : decode cX4_slowest 28 = .ok (.iload_n 2, 1) := by decide +kernel
theorem dX4_slowest_29 : decode cX4_slowest 29 = .ok (.if_icmp .lt 5, 3) := by decide +kernel
theorem dX4_slowest_32 : decode cX4_slowest 32 = .ok (.iload_n 3, 1) := by decide +kernel
theorem dX4_slowest_33 : decode cX4_slowest 33 = .ok (.ireturn, 1) := by decide +kernel
theorem dX4_slowest_34 : decode cX4_slowest 34 = .ok (.iinc 3 (-1), 3) := by decide +kernel
theorem dX4_slowest_37 : decode cX4_slowest 37 = .ok (.goto (-19), 3) := by decide +kernel
theorem dX4_slowest_40 : decode cX4_slowest 40 = .ok (.iload_n 1, 1) := by decide +kernel
theorem dX4_slowest_41 : decode cX4_slowest 41 = .ok (.ireturn, 1) := by decide +kernel
set_option maxRecDepth 20000 in
theorem ggX4_put_X1_append : GoodIn wsX4_put wsX1_append := goodIn_r _ [6, 7, 8, 9, 10, 11, 12, 21, 22, 23, 24, 25, 26] (by decide +kernel) (by decide +kernel)
set_option maxRecDepth 20000 in
theorem gX4_put_X1_append : GoodIn wsX4_put (wsV RX4 169 RX1 yX1_append wsX1_append) := goodIn_app (goodIn_of _ (by decide +kernel)) ggX4_put_X1_append
theorem dX4_put_0 : decode cX4_put 0 = .ok (.aload_n 0, 1) := by decide +kernel
theorem dX4_put_1 : decode cX4_put 1 = .ok (.getfield 47, 3) := by decide +kernel
theorem dX4_put_4 : decode cX4_put 4 = .ok (.lload_n 1, 1) := by decide +kernel
theorem dX4_put_5 : decode cX4_put 5 = .ok (.invokevirtual 169, 3) := by decide +kernel
theorem dX4_put_8 : decode cX4_put 8 = .ok (.ireturn, 1) := by decide +kernel
theorem dX4_wipe_0 : decode cX4_wipe 0 = .ok (.aload_n 0, 1) := by decide +kernel
theorem dX4_wipe_1 : decode cX4_wipe 1 = .ok (.getfield 47, 3) := by decide +kernel
theorem dX4_wipe_4 : decode cX4_wipe 4 = .ok (.getfield 136, 3) := by decide +kernel
theorem dX4_wipe_7 : decode cX4_wipe 7 = .ok (.istore_n 1, 1) := by decide +kernel
theorem dX4_wipe_8 : decode cX4_wipe 8 = .ok (.aload_n 0, 1) := by decide +kernel
theorem dX4_wipe_9 : decode cX4_wipe 9 = .ok (.getfield 47, 3) := by decide +kernel
theorem dX4_wipe_12 : decode cX4_wipe 12 = .ok (.iconst 0, 1) := by decide +kernel
theorem dX4_wipe_13 : decode cX4_wipe 13 = .ok (.putfield 136, 3) := by decide +kernel
theorem dX4_wipe_16 : decode cX4_wipe 16 = .ok (.iload_n 1, 1) := by decide +kernel
theorem dX4_wipe_17 : decode cX4_wipe 17 = .ok (.ireturn, 1) := by decide +kernel
set_option maxRecDepth 20000 in
theorem ggX4_fault_X1_firstFault : GoodIn wsX4_fault wsX1_firstFault := goodIn_r _ [6, 7, 8, 9, 10, 5, 11, 12, 13, 14, 15, 16, 17, 18, 19, 20, 21, 22, 23, 24, 25, 26, 27, 28, 29, 30, 31, 32, 33, 34, 35, 36, 37, 38, 39, 40, 41, 42, 43, 44, 45, 46, 47, 48, 49, 50, 51, 52, 53, 54, 55, 56, 57, 58, 59, 60, 61, 62, 63, 64, 65, 66, 67, 68, 69, 70, 71, 72, 73, 74, 75, 76, 77, 78, 79, 80, 81, 82, 83, 84, 85, 86, 87, 88, 89, 90, 91, 92, 93, 94, 95, 96, 97, 98, 99, 100, 101, 102, 103, 104, 105, 106, 107, 108, 109, 110, 111, 112, 113, 114, 115, 124, 125, 126, 127, 128, 129] (by decide +kernel) (by decide +kernel)
set_option maxRecDepth 20000 in
theorem gX4_fault_X1_firstFault : GoodIn wsX4_fault (wsV RX4 173 RX1 yX1_firstFault wsX1_firstFault) := goodIn_app (goodIn_of _ (by decide +kernel)) ggX4_fault_X1_firstFault
theorem dX4_fault_0 : decode cX4_fault 0 = .ok (.aload_n 0, 1) := by decide +kernel
theorem dX4_fault_1 : decode cX4_fault 1 = .ok (.getfield 47, 3) := by decide +kernel
theorem dX4_fault_4 : decode cX4_fault 4 = .ok (.invokevirtual 173, 3) := by decide +kernel
theorem dX4_fault_7 : decode cX4_fault 7 = .ok (.ireturn, 1) := by decide +kernel
set_option maxRecDepth 20000 in
theorem ggX4_carryOut_X1_firstFault : GoodIn wsX4_carryOut wsX1_firstFault := goodIn_r _ [9, 10, 11, 12, 13, 8, 14, 15, 16, 17, 18, 19, 20, 21, 22, 23, 24, 25, 26, 27, 28, 29, 30, 31, 32, 33, 34, 35, 36, 37, 38, 39, 40, 41, 42, 43, 44, 45, 46, 47, 48, 49, 50, 51, 52, 53, 54, 55, 56, 57, 58, 59, 60, 61, 62, 63, 64, 65, 66, 67, 68, 69, 70, 71, 72, 73, 74, 75, 76, 77, 78, 79, 80, 81, 82, 83, 84, 85, 86, 87, 88, 89, 90, 91, 92, 93, 94, 95, 96, 97, 98, 99, 100, 101, 102, 103, 104, 105, 106, 107, 108, 109, 110, 111, 112, 113, 114, 115, 116, 117, 118, 296, 297, 298, 299, 300, 301] (by decide +kernel) (by decide +kernel)
set_option maxRecDepth 20000 in
theorem gX4_carryOut_X1_firstFault : GoodIn wsX4_carryOut (wsV RX4 173 RX1 yX1_firstFault wsX1_firstFault) := goodIn_app (goodIn_of _ (by decide +kernel)) ggX4_carryOut_X1_firstFault
set_option maxRecDepth 20000 in
theorem ggX4_carryOut_X0_note : GoodIn wsX4_carryOut wsX0_note := goodIn_r _ [123, 124, 125, 126, 127, 128, 129, 130, 131, 132, 133, 134, 135, 136, 137, 138, 139, 140, 141, 302, 303, 304, 305, 306, 307, 308, 309, 310] (by decide +kernel) (by decide +kernel)
set_option maxRecDepth 20000 in
theorem gX4_carryOut_X0_note : GoodIn wsX4_carryOut (wsV RX4 51 RX0 yX0_note wsX0_note) := goodIn_app (goodIn_of _ (by decide +kernel)) ggX4_carryOut_X0_note
set_option maxRecDepth 20000 in
theorem ggX4_carryOut_X4_carryOrders : GoodIn wsX4_carryOut wsX4_carryOrders := goodIn_r _ [145, 1, 146, 12, 13, 8, 14, 10, 147, 116, 117, 118, 29, 148, 16, 17, 18, 19, 20, 21, 22, 23, 24, 25, 26, 27, 28, 30, 31, 32, 33, 34, 35, 36, 37, 38, 39, 40, 41, 42, 43, 44, 45, 46, 47, 48, 49, 50, 51, 52, 53, 54, 55, 56, 57, 58, 59, 60, 61, 62, 63, 64, 65, 66, 67, 68, 69, 70, 71, 72, 73, 74, 75, 76, 77, 78, 79, 80, 81, 82, 83, 84, 85, 86, 87, 88, 89, 90, 91, 92, 93, 94, 95, 96, 97, 98, 99, 100, 101, 102, 103, 104, 105, 106, 107, 108, 109, 110, 111, 112, 113, 114, 149, 150, 151, 152, 153, 154, 3, 155, 156, 157, 130, 158, 140, 159, 160, 161, 162, 163, 164, 165, 166, 167, 168, 137, 169, 170, 171, 172, 141, 138, 173, 174, 175, 176, 139, 177, 178, 179, 180, 181, 182, 183, 184, 133, 134, 135, 136, 185, 186, 187, 188, 288, 289, 290, 291, 292, 293, 294, 295, 296, 297, 298, 299, 300, 301, 305, 306, 307, 308, 309, 310] (by decide +kernel) (by decide +kernel)
set_option maxRecDepth 20000 in
theorem gX4_carryOut_X4_carryOrders : GoodIn wsX4_carryOut (wsV RX4 176 RX4 yX4_carryOrders wsX4_carryOrders) := goodIn_app (goodIn_of _ (by decide +kernel)) ggX4_carryOut_X4_carryOrders
set_option maxRecDepth 20000 in
theorem ggX4_carryOut_X4_changed : GoodIn wsX4_carryOut wsX4_changed := goodIn_r _ [192, 2, 193, 3, 194, 195, 196, 122, 197, 126, 125, 198, 199, 200, 201, 202, 203, 204, 205, 206, 207, 208, 209, 210, 211, 212, 213, 214, 215, 216, 130, 217, 138, 218, 219, 220, 221, 139, 222, 223, 224, 225, 226, 227, 228, 229, 137, 230, 231, 232, 233, 234, 235, 236, 237, 238, 239, 240, 241, 242, 243, 244, 245, 246, 247, 248, 249, 250, 251, 252, 253, 254, 255, 256, 257, 258, 259, 260, 261, 262, 263, 264, 265, 266, 267, 268, 269, 270, 271, 272, 273, 274, 275, 276, 277, 278, 279, 280, 281, 282, 283, 284, 285, 286, 287, 288, 289, 290, 291, 292, 293, 294, 295, 302, 303, 304, 305, 306, 307, 308, 309, 310, 311, 312, 313, 314, 315, 316, 317] (by decide +kernel) (by decide +kernel)
set_option maxRecDepth 20000 in
theorem gX4_carryOut_X4_changed : GoodIn wsX4_carryOut (wsV RX4 59 RX4 yX4_changed wsX4_changed) := goodIn_app (goodIn_of _ (by decide +kernel)) ggX4_carryOut_X4_changed
theorem dX4_carryOut_0 : decode cX4_carryOut 0 = .ok (.aload_n 0, 1) := by decide +kernel
theorem dX4_carryOut_1 : decode cX4_carryOut 1 = .ok (.getfield 47, 3) := by decide +kernel
theorem dX4_carryOut_4 : decode cX4_carryOut 4 = .ok (.invokevirtual 173, 3) := by decide +kernel
theorem dX4_carryOut_7 : decode cX4_carryOut 7 = .ok (.bipush (-6), 2) := by decide +kernel
theorem dX4_carryOut_9 : decode cX4_carryOut 9 = .ok (.if_icmp .eq 6, 3) := by decide +kernel
theorem dX4_carryOut_12 : decode cX4_carryOut 12 = .ok (.bipush (-3), 2) := by decide +kernel
theorem dX4_carryOut_14 : decode cX4_carryOut 14 = .ok (.ireturn, 1) := by decide +kernel
theorem dX4_carryOut_15 : decode cX4_carryOut 15 = .ok (.aload_n 0, 1) := by decide +kernel
theorem dX4_carryOut_16 : decode cX4_carryOut 16 = .ok (.getfield 32, 3) := by decide +kernel
theorem dX4_carryOut_19 : decode cX4_carryOut 19 = .ok (.aload_n 0, 1) := by decide +kernel
theorem dX4_carryOut_20 : decode cX4_carryOut 20 = .ok (.getfield 12, 3) := by decide +kernel
theorem dX4_carryOut_23 : decode cX4_carryOut 23 = .ok (.invokevirtual 51, 3) := by decide +kernel
theorem dX4_carryOut_26 : decode cX4_carryOut 26 = .ok (.aload_n 0, 1) := by decide +kernel
theorem dX4_carryOut_27 : decode cX4_carryOut 27 = .ok (.invokevirtual 176, 3) := by decide +kernel
theorem dX4_carryOut_30 : decode cX4_carryOut 30 = .ok (.istore_n 1, 1) := by decide +kernel
theorem dX4_carryOut_31 : decode cX4_carryOut 31 = .ok (.aload_n 0, 1) := by decide +kernel
theorem dX4_carryOut_32 : decode cX4_carryOut 32 = .ok (.getfield 47, 3) := by decide +kernel
theorem dX4_carryOut_35 : decode cX4_carryOut 35 = .ok (.iconst 0, 1) := by decide +kernel
theorem dX4_carryOut_36 : decode cX4_carryOut 36 = .ok (.putfield 136, 3) := by decide +kernel
theorem dX4_carryOut_39 : decode cX4_carryOut 39 = .ok (.aload_n 0, 1) := by decide +kernel
theorem dX4_carryOut_40 : decode cX4_carryOut 40 = .ok (.iload_n 1, 1) := by decide +kernel
theorem dX4_carryOut_41 : decode cX4_carryOut 41 = .ok (.invokevirtual 59, 3) := by decide +kernel
theorem dX4_carryOut_44 : decode cX4_carryOut 44 = .ok (.ireturn, 1) := by decide +kernel
set_option maxRecDepth 20000 in
theorem ggX4_undo_X0_takeBack : GoodIn wsX4_undo wsX0_takeBack := goodIn_r _ [9, 10, 11, 12, 13, 14, 15, 16, 17, 18, 19, 20, 21, 22, 23, 24, 25, 26, 27, 126, 127, 128, 129, 130, 131, 132, 133, 134] (by decide +kernel) (by decide +kernel)
set_option maxRecDepth 20000 in
theorem gX4_undo_X0_takeBack : GoodIn wsX4_undo (wsV RX4 179 RX0 yX0_takeBack wsX0_takeBack) := goodIn_app (goodIn_of _ (by decide +kernel)) ggX4_undo_X0_takeBack
set_option maxRecDepth 20000 in
theorem ggX4_undo_X2_make : GoodIn wsX4_undo wsX2_make := goodIn_r _ [32, 33, 34, 35, 36, 37, 38, 39, 40, 31, 41, 42, 43, 44, 45, 46, 16, 47, 24, 48, 49, 50, 51, 25, 52, 53, 54, 55, 56, 57, 58, 59, 23, 60, 61, 62, 63, 64, 65, 66, 67, 68, 69, 70, 71, 72, 73, 74, 75, 76, 77, 78, 79, 80, 81, 82, 83, 84, 85, 86, 87, 88, 89, 90, 91, 92, 93, 94, 95, 96, 97, 98, 99, 100, 101, 102, 103, 104, 105, 106, 107, 108, 109, 110, 111, 112, 113, 114, 115, 116, 117, 129, 130, 131, 132, 133, 134, 135, 136, 137, 138, 139, 140, 141] (by decide +kernel) (by decide +kernel)
set_option maxRecDepth 20000 in
theorem gX4_undo_X2_make : GoodIn wsX4_undo (wsV RX4 157 RX2 yX2_make wsX2_make) := goodIn_app (goodIn_of _ (by decide +kernel)) ggX4_undo_X2_make
theorem dX4_undo_0 : decode cX4_undo 0 = .ok (.aload_n 0, 1) := by decide +kernel
theorem dX4_undo_1 : decode cX4_undo 1 = .ok (.getfield 32, 3) := by decide +kernel
theorem dX4_undo_4 : decode cX4_undo 4 = .ok (.getfield 139, 3) := by decide +kernel
theorem dX4_undo_7 : decode cX4_undo 7 = .ok (.ifCond .ne 6, 3) := by decide +kernel
theorem dX4_undo_10 : decode cX4_undo 10 = .ok (.bipush (-5), 2) := by decide +kernel
theorem dX4_undo_12 : decode cX4_undo 12 = .ok (.ireturn, 1) := by decide +kernel
theorem dX4_undo_13 : decode cX4_undo 13 = .ok (.aload_n 0, 1) := by decide +kernel
theorem dX4_undo_14 : decode cX4_undo 14 = .ok (.getfield 32, 3) := by decide +kernel
theorem dX4_undo_17 : decode cX4_undo 17 = .ok (.aload_n 0, 1) := by decide +kernel
theorem dX4_undo_18 : decode cX4_undo 18 = .ok (.getfield 12, 3) := by decide +kernel
theorem dX4_undo_21 : decode cX4_undo 21 = .ok (.invokevirtual 179, 3) := by decide +kernel
theorem dX4_undo_24 : decode cX4_undo 24 = .ok (.aload_n 0, 1) := by decide +kernel
theorem dX4_undo_25 : decode cX4_undo 25 = .ok (.getfield 19, 3) := by decide +kernel
theorem dX4_undo_28 : decode cX4_undo 28 = .ok (.aload_n 0, 1) := by decide +kernel
theorem dX4_undo_29 : decode cX4_undo 29 = .ok (.getfield 12, 3) := by decide +kernel
theorem dX4_undo_32 : decode cX4_undo 32 = .ok (.invokevirtual 157, 3) := by decide +kernel
theorem dX4_undo_35 : decode cX4_undo 35 = .ok (.aload_n 0, 1) := by decide +kernel
theorem dX4_undo_36 : decode cX4_undo 36 = .ok (.getfield 32, 3) := by decide +kernel
theorem dX4_undo_39 : decode cX4_undo 39 = .ok (.getfield 139, 3) := by decide +kernel
theorem dX4_undo_42 : decode cX4_undo 42 = .ok (.ireturn, 1) := by decide +kernel
set_option maxRecDepth 20000 in
theorem ggX4_save_X4_within : GoodIn wsX4_save wsX4_within := goodIn_r _ [8] (by decide +kernel) (by decide +kernel)
set_option maxRecDepth 20000 in
theorem gX4_save_X4_within : GoodIn wsX4_save (va_wsS RX4 81 yX4_within wsX4_within) := goodIn_app (goodIn_of _ (by decide +kernel)) ggX4_save_X4_within
set_option maxRecDepth 20000 in
theorem ggX4_save_X3_copyFrom : GoodIn wsX4_save wsX3_copyFrom := goodIn_r _ [13, 14, 15, 16, 17, 18, 19, 20, 21, 22, 23, 32, 33, 34, 35, 36, 37] (by decide +kernel) (by decide +kernel)
set_option maxRecDepth 20000 in
theorem gX4_save_X3_copyFrom : GoodIn wsX4_save (wsV RX4 151 RX3 yX3_copyFrom wsX3_copyFrom) := goodIn_app (goodIn_of _ (by decide +kernel)) ggX4_save_X3_copyFrom
theorem dX4_save_0 : decode cX4_save 0 = .ok (.iload_n 1, 1) := by decide +kernel
theorem dX4_save_1 : decode cX4_save 1 = .ok (.iconst 0, 1) := by decide +kernel
theorem dX4_save_2 : decode cX4_save 2 = .ok (.iconst 1, 1) := by decide +kernel
theorem dX4_save_3 : decode cX4_save 3 = .ok (.invokestatic 81, 3) := by decide +kernel
theorem dX4_save_6 : decode cX4_save 6 = .ok (.ifCond .ne 6, 3) := by decide +kernel
theorem dX4_save_9 : decode cX4_save 9 = .ok (.bipush (-2), 2) := by decide +kernel
theorem dX4_save_11 : decode cX4_save 11 = .ok (.ireturn, 1) := by decide +kernel
theorem dX4_save_12 : decode cX4_save 12 = .ok (.aload_n 0, 1) := by decide +kernel
theorem dX4_save_13 : decode cX4_save 13 = .ok (.getfield 36, 3) := by decide +kernel
theorem dX4_save_16 : decode cX4_save 16 = .ok (.iload_n 1, 1) := by decide +kernel
theorem dX4_save_17 : decode cX4_save 17 = .ok (.aaload, 1) := by decide +kernel
theorem dX4_save_18 : decode cX4_save 18 = .ok (.aload_n 0, 1) := by decide +kernel
theorem dX4_save_19 : decode cX4_save 19 = .ok (.getfield 12, 3) := by decide +kernel
theorem dX4_save_22 : decode cX4_save 22 = .ok (.invokevirtual 151, 3) := by decide +kernel
theorem dX4_save_25 : decode cX4_save 25 = .ok (.aload_n 0, 1) := by decide +kernel
theorem dX4_save_26 : decode cX4_save 26 = .ok (.getfield 40, 3) := by decide +kernel
theorem dX4_save_29 : decode cX4_save 29 = .ok (.iload_n 1, 1) := by decide +kernel
theorem dX4_save_30 : decode cX4_save 30 = .ok (.iconst 1, 1) := by decide +kernel
theorem dX4_save_31 : decode cX4_save 31 = .ok (.bastore, 1) := by decide +kernel
theorem dX4_save_32 : decode cX4_save 32 = .ok (.aload_n 0, 1) := by decide +kernel
theorem dX4_save_33 : decode cX4_save 33 = .ok (.getfield 12, 3) := by decide +kernel
theorem dX4_save_36 : decode cX4_save 36 = .ok (.getfield 112, 3) := by decide +kernel
theorem dX4_save_39 : decode cX4_save 39 = .ok (.ireturn, 1) := by decide +kernel
set_option maxRecDepth 20000 in
theorem ggX4_restore_X4_within : GoodIn wsX4_restore wsX4_within := goodIn_r _ [9] (by decide +kernel) (by decide +kernel)
set_option maxRecDepth 20000 in
theorem gX4_restore_X4_within : GoodIn wsX4_restore (va_wsS RX4 81 yX4_within wsX4_within) := goodIn_app (goodIn_of _ (by decide +kernel)) ggX4_restore_X4_within
set_option maxRecDepth 20000 in
theorem ggX4_restore_X0_note : GoodIn wsX4_restore wsX0_note := goodIn_r _ [14, 15, 16, 17, 18, 19, 20, 21, 22, 23, 24, 25, 26, 27, 28, 29, 30, 31, 32, 147, 148, 149, 141, 142, 143, 144, 145, 146] (by decide +kernel) (by decide +kernel)
set_option maxRecDepth 20000 in
theorem gX4_restore_X0_note : GoodIn wsX4_restore (wsV RX4 51 RX0 yX0_note wsX0_note) := goodIn_app (goodIn_of _ (by decide +kernel)) ggX4_restore_X0_note
set_option maxRecDepth 20000 in
theorem ggX4_restore_X3_copyFrom : GoodIn wsX4_restore wsX3_copyFrom := goodIn_r _ [22, 23, 24, 25, 26, 27, 28, 29, 30, 31, 32, 141, 142, 143, 144, 145, 146] (by decide +kernel) (by decide +kernel)
set_option maxRecDepth 20000 in
theorem gX4_restore_X3_copyFrom : GoodIn wsX4_restore (wsV RX4 151 RX3 yX3_copyFrom wsX3_copyFrom) := goodIn_app (goodIn_of _ (by decide +kernel)) ggX4_restore_X3_copyFrom
set_option maxRecDepth 20000 in
theorem ggX4_restore_X4_changed : GoodIn wsX4_restore wsX4_changed := goodIn_r _ [37, 2, 38, 3, 39, 40, 41, 13, 42, 17, 16, 43, 44, 45, 46, 47, 48, 49, 50, 51, 52, 53, 54, 55, 56, 57, 58, 59, 60, 61, 21, 62, 29, 63, 64, 65, 66, 30, 67, 68, 69, 70, 71, 72, 73, 74, 28, 75, 76, 77, 78, 79, 80, 81, 82, 83, 84, 85, 86, 87, 88, 89, 90, 91, 92, 93, 94, 95, 96, 97, 98, 99, 100, 101, 102, 103, 104, 105, 106, 107, 108, 109, 110, 111, 112, 113, 114, 115, 116, 117, 118, 119, 120, 121, 122, 123, 124, 125, 126, 127, 128, 129, 130, 131, 132, 133, 134, 135, 136, 137, 138, 139, 140, 147, 148, 149, 141, 142, 143, 144, 145, 146, 150, 151, 152, 153, 154, 155, 156] (by decide +kernel) (by decide +kernel)
set_option maxRecDepth 20000 in
theorem gX4_restore_X4_changed : GoodIn wsX4_restore (wsV RX4 59 RX4 yX4_changed wsX4_changed) := goodIn_app (goodIn_of _ (by decide +kernel)) ggX4_restore_X4_changed
theorem dX4_restore_0 : decode cX4_restore 0 = .ok (.iload_n 1, 1) := by decide +kernel
theorem dX4_restore_1 : decode cX4_restore 1 = .ok (.iconst 0, 1) := by decide +kernel
theorem dX4_restore_2 : decode cX4_restore 2 = .ok (.iconst 1, 1) := by decide +kernel
theorem dX4_restore_3 : decode cX4_restore 3 = .ok (.invokestatic 81, 3) := by decide +kernel
theorem dX4_restore_6 : decode cX4_restore 6 = .ok (.ifCond .ne 6, 3) := by decide +kernel
theorem dX4_restore_9 : decode cX4_restore 9 = .ok (.bipush (-2), 2) := by decide +kernel
theorem dX4_restore_11 : decode cX4_restore 11 = .ok (.ireturn, 1) := by decide +kernel
theorem dX4_restore_12 : decode cX4_restore 12 = .ok (.aload_n 0, 1) := by decide +kernel
theorem dX4_restore_13 : decode cX4_restore 13 = .ok (.getfield 40, 3) := by decide +kernel
theorem dX4_restore_16 : decode cX4_restore 16 = .ok (.iload_n 1, 1) := by decide +kernel
theorem dX4_restore_17 : decode cX4_restore 17 = .ok (.baload, 1) := by decide +kernel
theorem dX4_restore_18 : decode cX4_restore 18 = .ok (.ifCond .ne 6, 3) := by decide +kernel
theorem dX4_restore_21 : decode cX4_restore 21 = .ok (.bipush (-5), 2) := by decide +kernel
theorem dX4_restore_23 : decode cX4_restore 23 = .ok (.ireturn, 1) := by decide +kernel
theorem dX4_restore_24 : decode cX4_restore 24 = .ok (.aload_n 0, 1) := by decide +kernel
theorem dX4_restore_25 : decode cX4_restore 25 = .ok (.getfield 32, 3) := by decide +kernel
theorem dX4_restore_28 : decode cX4_restore 28 = .ok (.aload_n 0, 1) := by decide +kernel
theorem dX4_restore_29 : decode cX4_restore 29 = .ok (.getfield 12, 3) := by decide +kernel
theorem dX4_restore_32 : decode cX4_restore 32 = .ok (.invokevirtual 51, 3) := by decide +kernel
theorem dX4_restore_35 : decode cX4_restore 35 = .ok (.aload_n 0, 1) := by decide +kernel
theorem dX4_restore_36 : decode cX4_restore 36 = .ok (.getfield 12, 3) := by decide +kernel
theorem dX4_restore_39 : decode cX4_restore 39 = .ok (.aload_n 0, 1) := by decide +kernel
theorem dX4_restore_40 : decode cX4_restore 40 = .ok (.getfield 36, 3) := by decide +kernel
theorem dX4_restore_43 : decode cX4_restore 43 = .ok (.iload_n 1, 1) := by decide +kernel
theorem dX4_restore_44 : decode cX4_restore 44 = .ok (.aaload, 1) := by decide +kernel
theorem dX4_restore_45 : decode cX4_restore 45 = .ok (.invokevirtual 151, 3) := by decide +kernel
theorem dX4_restore_48 : decode cX4_restore 48 = .ok (.aload_n 0, 1) := by decide +kernel
theorem dX4_restore_49 : decode cX4_restore 49 = .ok (.aload_n 0, 1) := by decide +kernel
theorem dX4_restore_50 : decode cX4_restore 50 = .ok (.getfield 12, 3) := by decide +kernel
theorem dX4_restore_53 : decode cX4_restore 53 = .ok (.getfield 112, 3) := by decide +kernel
theorem dX4_restore_56 : decode cX4_restore 56 = .ok (.invokevirtual 59, 3) := by decide +kernel
theorem dX4_restore_59 : decode cX4_restore 59 = .ok (.ireturn, 1) := by decide +kernel
set_option maxRecDepth 20000 in
theorem ggX4_changed_X0_keep : GoodIn wsX4_changed wsX0_keep := goodIn_r _ [8, 9, 10, 113, 114, 115] (by decide +kernel) (by decide +kernel)
set_option maxRecDepth 20000 in
theorem gX4_changed_X0_keep : GoodIn wsX4_changed (wsV RX4 182 RX0 yX0_keep wsX0_keep) := goodIn_app (goodIn_of _ (by decide +kernel)) ggX4_changed_X0_keep
set_option maxRecDepth 20000 in
theorem ggX4_changed_X2_make : GoodIn wsX4_changed wsX2_make := goodIn_r _ [15, 16, 17, 18, 19, 20, 21, 22, 23, 14, 24, 25, 26, 27, 28, 29, 30, 31, 32, 33, 34, 35, 36, 37, 38, 39, 40, 41, 42, 43, 44, 45, 46, 47, 48, 49, 50, 51, 52, 53, 54, 55, 56, 57, 58, 59, 60, 61, 62, 63, 64, 65, 66, 67, 68, 69, 70, 71, 72, 73, 74, 75, 76, 77, 78, 79, 80, 81, 82, 83, 84, 85, 86, 87, 88, 89, 90, 91, 92, 93, 94, 95, 96, 97, 98, 99, 100, 101, 102, 103, 104, 116, 117, 118, 119, 120, 121, 122, 123, 124, 125, 126, 127, 128] (by decide +kernel) (by decide +kernel)
set_option maxRecDepth 20000 in
theorem gX4_changed_X2_make : GoodIn wsX4_changed (wsV RX4 157 RX2 yX2_make wsX2_make) := goodIn_app (goodIn_of _ (by decide +kernel)) ggX4_changed_X2_make
theorem dX4_changed_0 : decode cX4_changed 0 = .ok (.iload_n 1, 1) := by decide +kernel
theorem dX4_changed_1 : decode cX4_changed 1 = .ok (.ifCond .lt 21, 3) := by decide +kernel
theorem dX4_changed_4 : decode cX4_changed 4 = .ok (.aload_n 0, 1) := by decide +kernel
theorem dX4_changed_5 : decode cX4_changed 5 = .ok (.getfield 32, 3) := by decide +kernel
theorem dX4_changed_8 : decode cX4_changed 8 = .ok (.invokevirtual 182, 3) := by decide +kernel
theorem dX4_changed_11 : decode cX4_changed 11 = .ok (.aload_n 0, 1) := by decide +kernel
theorem dX4_changed_12 : decode cX4_changed 12 = .ok (.getfield 19, 3) := by decide +kernel
theorem dX4_changed_15 : decode cX4_changed 15 = .ok (.aload_n 0, 1) := by decide +kernel
theorem dX4_changed_16 : decode cX4_changed 16 = .ok (.getfield 12, 3) := by decide +kernel
theorem dX4_changed_19 : decode cX4_changed 19 = .ok (.invokevirtual 157, 3) := by decide +kernel
theorem dX4_changed_22 : decode cX4_changed 22 = .ok (.iload_n 1, 1) := by decide +kernel
theorem dX4_changed_23 : decode cX4_changed 23 = .ok (.ireturn, 1) := by decide +kernel
set_option maxRecDepth 20000 in
theorem ggX4_madeAtPace_X3_copyFrom : GoodIn wsX4_madeAtPace wsX3_copyFrom := goodIn_r _ [8, 9, 10, 11, 12, 13, 14, 15, 16, 17, 18, 132, 133, 134, 135, 136, 137] (by decide +kernel) (by decide +kernel)
set_option maxRecDepth 20000 in
theorem gX4_madeAtPace_X3_copyFrom : GoodIn wsX4_madeAtPace (wsV RX4 151 RX3 yX3_copyFrom wsX3_copyFrom) := goodIn_app (goodIn_of _ (by decide +kernel)) ggX4_madeAtPace_X3_copyFrom
set_option maxRecDepth 20000 in
theorem ggX4_madeAtPace_X3_changeSetting : GoodIn wsX4_madeAtPace wsX3_changeSetting := goodIn_r _ [22, 9, 23, 24, 25, 132, 133, 134, 135, 136, 137] (by decide +kernel) (by decide +kernel)
set_option maxRecDepth 20000 in
theorem gX4_madeAtPace_X3_changeSetting : GoodIn wsX4_madeAtPace (wsV RX4 55 RX3 yX3_changeSetting wsX3_changeSetting) := goodIn_app (goodIn_of _ (by decide +kernel)) ggX4_madeAtPace_X3_changeSetting
set_option maxRecDepth 20000 in
theorem ggX4_madeAtPace_X2_make : GoodIn wsX4_madeAtPace wsX2_make := goodIn_r _ [30, 31, 32, 33, 34, 35, 36, 37, 38, 29, 39, 40, 41, 42, 43, 44, 7, 45, 15, 46, 47, 48, 49, 16, 50, 51, 52, 53, 54, 55, 56, 57, 14, 58, 59, 60, 61, 62, 63, 64, 65, 66, 67, 68, 69, 70, 71, 72, 73, 74, 75, 76, 77, 78, 79, 80, 81, 82, 83, 84, 85, 86, 87, 88, 89, 90, 91, 92, 93, 94, 95, 96, 97, 98, 99, 100, 101, 102, 103, 104, 105, 106, 107, 108, 109, 110, 111, 112, 113, 114, 115, 132, 133, 134, 135, 136, 137, 138, 139, 140, 141, 142, 143, 144] (by decide +kernel) (by decide +kernel)
set_option maxRecDepth 20000 in
theorem gX4_madeAtPace_X2_make : GoodIn wsX4_madeAtPace (wsV RX4 157 RX2 yX2_make wsX2_make) := goodIn_app (goodIn_of _ (by decide +kernel)) ggX4_madeAtPace_X2_make
set_option maxRecDepth 20000 in
theorem ggX4_madeAtPace_X2_visitsMade : GoodIn wsX4_madeAtPace wsX2_visitsMade := goodIn_r _ [119, 120, 121, 122, 29, 123, 32, 107, 108, 109, 110, 102, 138, 139, 140, 141, 142, 143, 144] (by decide +kernel) (by decide +kernel)
set_option maxRecDepth 20000 in
theorem gX4_madeAtPace_X2_visitsMade : GoodIn wsX4_madeAtPace (wsV RX4 122 RX2 yX2_visitsMade wsX2_visitsMade) := goodIn_app (goodIn_of _ (by decide +kernel)) ggX4_madeAtPace_X2_visitsMade
theorem dX4_madeAtPace_0 : decode cX4_madeAtPace 0 = .ok (.aload_n 0, 1) := by decide +kernel
theorem dX4_madeAtPace_1 : decode cX4_madeAtPace 1 = .ok (.getfield 23, 3) := by decide +kernel
theorem dX4_madeAtPace_4 : decode cX4_madeAtPace 4 = .ok (.aload_n 0, 1) := by decide +kernel
theorem dX4_madeAtPace_5 : decode cX4_madeAtPace 5 = .ok (.getfield 12, 3) := by decide +kernel
theorem dX4_madeAtPace_8 : decode cX4_madeAtPace 8 = .ok (.invokevirtual 151, 3) := by decide +kernel
theorem dX4_madeAtPace_11 : decode cX4_madeAtPace 11 = .ok (.aload_n 0, 1) := by decide +kernel
theorem dX4_madeAtPace_12 : decode cX4_madeAtPace 12 = .ok (.getfield 23, 3) := by decide +kernel
theorem dX4_madeAtPace_15 : decode cX4_madeAtPace 15 = .ok (.iconst 0, 1) := by decide +kernel
theorem dX4_madeAtPace_16 : decode cX4_madeAtPace 16 = .ok (.iload_n 1, 1) := by decide +kernel
theorem dX4_madeAtPace_17 : decode cX4_madeAtPace 17 = .ok (.invokevirtual 55, 3) := by decide +kernel
theorem dX4_madeAtPace_20 : decode cX4_madeAtPace 20 = .ok (.pop, 1) := by decide +kernel
theorem dX4_madeAtPace_21 : decode cX4_madeAtPace 21 = .ok (.aload_n 0, 1) := by decide +kernel
theorem dX4_madeAtPace_22 : decode cX4_madeAtPace 22 = .ok (.getfield 26, 3) := by decide +kernel
theorem dX4_madeAtPace_25 : decode cX4_madeAtPace 25 = .ok (.aload_n 0, 1) := by decide +kernel
theorem dX4_madeAtPace_26 : decode cX4_madeAtPace 26 = .ok (.getfield 23, 3) := by decide +kernel
theorem dX4_madeAtPace_29 : decode cX4_madeAtPace 29 = .ok (.invokevirtual 157, 3) := by decide +kernel
theorem dX4_madeAtPace_32 : decode cX4_madeAtPace 32 = .ok (.aload_n 0, 1) := by decide +kernel
theorem dX4_madeAtPace_33 : decode cX4_madeAtPace 33 = .ok (.getfield 26, 3) := by decide +kernel
theorem dX4_madeAtPace_36 : decode cX4_madeAtPace 36 = .ok (.invokevirtual 122, 3) := by decide +kernel
theorem dX4_madeAtPace_39 : decode cX4_madeAtPace 39 = .ok (.ireturn, 1) := by decide +kernel
set_option maxRecDepth 20000 in
theorem ggX4_carryOrders_X1_start : GoodIn wsX4_carryOrders wsX1_start := goodIn_r _ [6, 7, 171, 172, 173, 174, 175, 176] (by decide +kernel) (by decide +kernel)
set_option maxRecDepth 20000 in
theorem gX4_carryOrders_X1_start : GoodIn wsX4_carryOrders (wsV RX4 185 RX1 yX1_start wsX1_start) := goodIn_app (goodIn_of _ (by decide +kernel)) ggX4_carryOrders_X1_start
set_option maxRecDepth 20000 in
theorem ggX4_carryOrders_X1_hasMore : GoodIn wsX4_carryOrders wsX1_hasMore := goodIn_r _ [11, 7, 12, 171, 172, 173, 174, 175, 176] (by decide +kernel) (by decide +kernel)
set_option maxRecDepth 20000 in
theorem gX4_carryOrders_X1_hasMore : GoodIn wsX4_carryOrders (wsV RX4 188 RX1 yX1_hasMore wsX1_hasMore) := goodIn_app (goodIn_of _ (by decide +kernel)) ggX4_carryOrders_X1_hasMore
set_option maxRecDepth 20000 in
theorem ggX4_carryOrders_X1_readOrder : GoodIn wsX4_carryOrders wsX1_readOrder := goodIn_r _ [16, 7, 17, 18, 19, 20, 21, 5, 22, 23, 24, 25, 26, 12, 27, 28, 29, 30, 31, 32, 33, 34, 35, 36, 37, 38, 39, 40, 41, 42, 43, 44, 45, 46, 47, 48, 49, 50, 51, 52, 53, 54, 55, 56, 57, 58, 59, 60, 61, 62, 63, 64, 65, 66, 67, 68, 69, 70, 71, 72, 73, 74, 75, 76, 77, 78, 79, 80, 81, 82, 83, 84, 85, 86, 87, 88, 89, 90, 91, 92, 93, 94, 95, 96, 97, 98, 99, 100, 101, 102, 103, 104, 105, 106, 107, 108, 109, 110, 111, 171, 172, 173, 174, 175, 176] (by decide +kernel) (by decide +kernel)
set_option maxRecDepth 20000 in
theorem gX4_carryOrders_X1_readOrder : GoodIn wsX4_carryOrders (wsV RX4 192 RX1 yX1_readOrder wsX1_readOrder) := goodIn_app (goodIn_of _ (by decide +kernel)) ggX4_carryOrders_X1_readOrder
set_option maxRecDepth 20000 in
theorem ggX4_carryOrders_X4_carryOne : GoodIn wsX4_carryOrders wsX4_carryOne := goodIn_r _ [115, 1, 116, 117, 118, 119, 120, 121, 122, 123, 124, 125, 97, 126, 127, 96, 98, 128, 129, 130, 131, 132, 133, 134, 135, 136, 137, 138, 139, 140, 141, 142, 143, 144, 145, 146, 147, 148, 149, 150, 151, 152, 153, 154, 155, 156, 157, 158, 159, 160, 161, 162, 163, 164, 165, 166, 167, 168, 169, 170, 171, 172, 173, 174, 175, 176, 177, 178, 179, 180, 181, 182] (by decide +kernel) (by decide +kernel)
set_option maxRecDepth 20000 in
theorem gX4_carryOrders_X4_carryOne : GoodIn wsX4_carryOrders (wsV RX4 195 RX4 yX4_carryOne wsX4_carryOne) := goodIn_app (goodIn_of _ (by decide +kernel)) ggX4_carryOrders_X4_carryOne
theorem dX4_carryOrders_0 : decode cX4_carryOrders 0 = .ok (.aload_n 0, 1) := by decide +kernel
theorem dX4_carryOrders_1 : decode cX4_carryOrders 1 = .ok (.getfield 47, 3) := by decide +kernel
theorem dX4_carryOrders_4 : decode cX4_carryOrders 4 = .ok (.invokevirtual 185, 3) := by decide +kernel
theorem dX4_carryOrders_7 : decode cX4_carryOrders 7 = .ok (.iconst 0, 1) := by decide +kernel
theorem dX4_carryOrders_8 : decode cX4_carryOrders 8 = .ok (.istore_n 1, 1) := by decide +kernel
theorem dX4_carryOrders_9 : decode cX4_carryOrders 9 = .ok (.iload_n 1, 1) := by decide +kernel
theorem dX4_carryOrders_10 : decode cX4_carryOrders 10 = .ok (.bipush 80, 2) := by decide +kernel
theorem dX4_carryOrders_12 : decode cX4_carryOrders 12 = .ok (.if_icmp .ge 36, 3) := by decide +kernel
theorem dX4_carryOrders_15 : decode cX4_carryOrders 15 = .ok (.aload_n 0, 1) := by decide +kernel
theorem dX4_carryOrders_16 : decode cX4_carryOrders 16 = .ok (.getfield 47, 3) := by decide +kernel
theorem dX4_carryOrders_19 : decode cX4_carryOrders 19 = .ok (.invokevirtual 188, 3) := by decide +kernel
theorem dX4_carryOrders_22 : decode cX4_carryOrders 22 = .ok (.ifCond .eq 26, 3) := by decide +kernel
theorem dX4_carryOrders_25 : decode cX4_carryOrders 25 = .ok (.aload_n 0, 1) := by decide +kernel
theorem dX4_carryOrders_26 : decode cX4_carryOrders 26 = .ok (.getfield 47, 3) := by decide +kernel
theorem dX4_carryOrders_29 : decode cX4_carryOrders 29 = .ok (.invokevirtual 192, 3) := by decide +kernel
theorem dX4_carryOrders_32 : decode cX4_carryOrders 32 = .ok (.ifCond .eq 16, 3) := by decide +kernel
theorem dX4_carryOrders_35 : decode cX4_carryOrders 35 = .ok (.aload_n 0, 1) := by decide +kernel
theorem dX4_carryOrders_36 : decode cX4_carryOrders 36 = .ok (.invokevirtual 195, 3) := by decide +kernel
theorem dX4_carryOrders_39 : decode cX4_carryOrders 39 = .ok (.ifCond .lt 9, 3) := by decide +kernel
theorem dX4_carryOrders_42 : decode cX4_carryOrders 42 = .ok (.iinc 1 1, 3) := by decide +kernel
theorem dX4_carryOrders_45 : decode cX4_carryOrders 45 = .ok (.goto (-36), 3) := by decide +kernel
theorem dX4_carryOrders_48 : decode cX4_carryOrders 48 = .ok (.iload_n 1, 1) := by decide +kernel
theorem dX4_carryOrders_49 : decode cX4_carryOrders 49 = .ok (.ireturn, 1) := by decide +kernel
set_option maxRecDepth 20000 in
theorem ggX4_carryOne_X3_addVisit : GoodIn wsX4_carryOne wsX3_addVisit := goodIn_r _ [9, 10, 11, 12, 13, 14, 15, 16, 17, 18, 19, 20, 21, 22, 8, 23, 24, 66, 67, 68, 69, 70, 71] (by decide +kernel) (by decide +kernel)
set_option maxRecDepth 20000 in
theorem gX4_carryOne_X3_addVisit : GoodIn wsX4_carryOne (wsV RX4 63 RX3 yX3_addVisit wsX3_addVisit) := goodIn_app (goodIn_of _ (by decide +kernel)) ggX4_carryOne_X3_addVisit
set_option maxRecDepth 20000 in
theorem ggX4_carryOne_X3_addVan : GoodIn wsX4_carryOne wsX3_addVan := goodIn_r _ [28, 29, 30, 15, 12, 16, 66, 67, 68, 69, 70, 71] (by decide +kernel) (by decide +kernel)
set_option maxRecDepth 20000 in
theorem gX4_carryOne_X3_addVan : GoodIn wsX4_carryOne (wsV RX4 70 RX3 yX3_addVan wsX3_addVan) := goodIn_app (goodIn_of _ (by decide +kernel)) ggX4_carryOne_X3_addVan
set_option maxRecDepth 20000 in
theorem ggX4_carryOne_X3_changeStock : GoodIn wsX4_carryOne wsX3_changeStock := goodIn_r _ [34, 35, 36, 37, 38, 8, 39, 29, 18, 12, 19, 14, 15, 16, 66, 67, 68, 69, 70, 71] (by decide +kernel) (by decide +kernel)
set_option maxRecDepth 20000 in
theorem gX4_carryOne_X3_changeStock : GoodIn wsX4_carryOne (wsV RX4 73 RX3 yX3_changeStock wsX3_changeStock) := goodIn_app (goodIn_of _ (by decide +kernel)) ggX4_carryOne_X3_changeStock
set_option maxRecDepth 20000 in
theorem ggX4_carryOne_X3_removeVisit : GoodIn wsX4_carryOne wsX3_removeVisit := goodIn_r _ [43, 10, 24, 44, 45, 46, 47, 48, 49, 50, 8, 51, 66, 67, 68, 69, 70, 71] (by decide +kernel) (by decide +kernel)
set_option maxRecDepth 20000 in
theorem gX4_carryOne_X3_removeVisit : GoodIn wsX4_carryOne (wsV RX4 67 RX3 yX3_removeVisit wsX3_removeVisit) := goodIn_app (goodIn_of _ (by decide +kernel)) ggX4_carryOne_X3_removeVisit
theorem dX4_carryOne_0 : decode cX4_carryOne 0 = .ok (.aload_n 0, 1) := by decide +kernel
theorem dX4_carryOne_1 : decode cX4_carryOne 1 = .ok (.getfield 47, 3) := by decide +kernel
theorem dX4_carryOne_4 : decode cX4_carryOne 4 = .ok (.getfield 198, 3) := by decide +kernel
theorem dX4_carryOne_7 : decode cX4_carryOne 7 = .ok (.astore_n 1, 1) := by decide +kernel
theorem dX4_carryOne_8 : decode cX4_carryOne 8 = .ok (.aload_n 0, 1) := by decide +kernel
theorem dX4_carryOne_9 : decode cX4_carryOne 9 = .ok (.getfield 47, 3) := by decide +kernel
theorem dX4_carryOne_12 : decode cX4_carryOne 12 = .ok (.getfield 201, 3) := by decide +kernel
theorem dX4_carryOne_15 : decode cX4_carryOne 15 = .ok (.lookupswitch 90 #[(108, 73), (118, 33), (119, 59)], 33) := by decide +kernel
theorem dX4_carryOne_48 : decode cX4_carryOne 48 = .ok (.aload_n 0, 1) := by decide +kernel
theorem dX4_carryOne_49 : decode cX4_carryOne 49 = .ok (.getfield 12, 3) := by decide +kernel
theorem dX4_carryOne_52 : decode cX4_carryOne 52 = .ok (.aload_n 1, 1) := by decide +kernel
theorem dX4_carryOne_53 : decode cX4_carryOne 53 = .ok (.iconst 0, 1) := by decide +kernel
theorem dX4_carryOne_54 : decode cX4_carryOne 54 = .ok (.iaload, 1) := by decide +kernel
theorem dX4_carryOne_55 : decode cX4_carryOne 55 = .ok (.aload_n 1, 1) := by decide +kernel
theorem dX4_carryOne_56 : decode cX4_carryOne 56 = .ok (.iconst 1, 1) := by decide +kernel
theorem dX4_carryOne_57 : decode cX4_carryOne 57 = .ok (.iaload, 1) := by decide +kernel
theorem dX4_carryOne_58 : decode cX4_carryOne 58 = .ok (.aload_n 1, 1) := by decide +kernel
theorem dX4_carryOne_59 : decode cX4_carryOne 59 = .ok (.iconst 2, 1) := by decide +kernel
theorem dX4_carryOne_60 : decode cX4_carryOne 60 = .ok (.iaload, 1) := by decide +kernel
theorem dX4_carryOne_61 : decode cX4_carryOne 61 = .ok (.aload_n 1, 1) := by decide +kernel
theorem dX4_carryOne_62 : decode cX4_carryOne 62 = .ok (.iconst 3, 1) := by decide +kernel
theorem dX4_carryOne_63 : decode cX4_carryOne 63 = .ok (.iaload, 1) := by decide +kernel
theorem dX4_carryOne_64 : decode cX4_carryOne 64 = .ok (.aload_n 1, 1) := by decide +kernel
theorem dX4_carryOne_65 : decode cX4_carryOne 65 = .ok (.iconst 4, 1) := by decide +kernel
theorem dX4_carryOne_66 : decode cX4_carryOne 66 = .ok (.iaload, 1) := by decide +kernel
theorem dX4_carryOne_67 : decode cX4_carryOne 67 = .ok (.aload_n 1, 1) := by decide +kernel
theorem dX4_carryOne_68 : decode cX4_carryOne 68 = .ok (.iconst 5, 1) := by decide +kernel
theorem dX4_carryOne_69 : decode cX4_carryOne 69 = .ok (.iaload, 1) := by decide +kernel
theorem dX4_carryOne_70 : decode cX4_carryOne 70 = .ok (.invokevirtual 63, 3) := by decide +kernel
theorem dX4_carryOne_73 : decode cX4_carryOne 73 = .ok (.ireturn, 1) := by decide +kernel
theorem dX4_carryOne_74 : decode cX4_carryOne 74 = .ok (.aload_n 0, 1) := by decide +kernel
theorem dX4_carryOne_75 : decode cX4_carryOne 75 = .ok (.getfield 12, 3) := by decide +kernel
theorem dX4_carryOne_78 : decode cX4_carryOne 78 = .ok (.aload_n 1, 1) := by decide +kernel
theorem dX4_carryOne_79 : decode cX4_carryOne 79 = .ok (.iconst 0, 1) := by decide +kernel
theorem dX4_carryOne_80 : decode cX4_carryOne 80 = .ok (.iaload, 1) := by decide +kernel
theorem dX4_carryOne_81 : decode cX4_carryOne 81 = .ok (.aload_n 1, 1) := by decide +kernel
theorem dX4_carryOne_82 : decode cX4_carryOne 82 = .ok (.iconst 1, 1) := by decide +kernel
theorem dX4_carryOne_83 : decode cX4_carryOne 83 = .ok (.iaload, 1) := by decide +kernel
theorem dX4_carryOne_84 : decode cX4_carryOne 84 = .ok (.invokevirtual 70, 3) := by decide +kernel
theorem dX4_carryOne_87 : decode cX4_carryOne 87 = .ok (.ireturn, 1) := by decide +kernel
theorem dX4_carryOne_88 : decode cX4_carryOne 88 = .ok (.aload_n 0, 1) := by decide +kernel
theorem dX4_carryOne_89 : decode cX4_carryOne 89 = .ok (.getfield 12, 3) := by decide +kernel
theorem dX4_carryOne_92 : decode cX4_carryOne 92 = .ok (.aload_n 1, 1) := by decide +kernel
theorem dX4_carryOne_93 : decode cX4_carryOne 93 = .ok (.iconst 0, 1) := by decide +kernel
theorem dX4_carryOne_94 : decode cX4_carryOne 94 = .ok (.iaload, 1) := by decide +kernel
theorem dX4_carryOne_95 : decode cX4_carryOne 95 = .ok (.aload_n 1, 1) := by decide +kernel
theorem dX4_carryOne_96 : decode cX4_carryOne 96 = .ok (.iconst 1, 1) := by decide +kernel
theorem dX4_carryOne_97 : decode cX4_carryOne 97 = .ok (.iaload, 1) := by decide +kernel
theorem dX4_carryOne_98 : decode cX4_carryOne 98 = .ok (.aload_n 1, 1) := by decide +kernel
theorem dX4_carryOne_99 : decode cX4_carryOne 99 = .ok (.iconst 2, 1) := by decide +kernel
theorem dX4_carryOne_100 : decode cX4_carryOne 100 = .ok (.iaload, 1) := by decide +kernel
theorem dX4_carryOne_101 : decode cX4_carryOne 101 = .ok (.invokevirtual 73, 3) := by decide +kernel
theorem dX4_carryOne_104 : decode cX4_carryOne 104 = .ok (.ireturn, 1) := by decide +kernel
theorem dX4_carryOne_105 : decode cX4_carryOne 105 = .ok (.aload_n 0, 1) := by decide +kernel
theorem dX4_carryOne_106 : decode cX4_carryOne 106 = .ok (.getfield 12, 3) := by decide +kernel
theorem dX4_carryOne_109 : decode cX4_carryOne 109 = .ok (.aload_n 1, 1) := by decide +kernel
theorem dX4_carryOne_110 : decode cX4_carryOne 110 = .ok (.iconst 0, 1) := by decide +kernel
theorem dX4_carryOne_111 : decode cX4_carryOne 111 = .ok (.iaload, 1) := by decide +kernel
theorem dX4_carryOne_112 : decode cX4_carryOne 112 = .ok (.invokevirtual 67, 3) := by decide +kernel
theorem dX4_carryOne_115 : decode cX4_carryOne 115 = .ok (.ireturn, 1) := by decide +kernel
theorem dX4_within_0 : decode cX4_within 0 = .ok (.iload_n 0, 1) := by decide +kernel
theorem dX4_within_1 : decode cX4_within 1 = .ok (.iload_n 1, 1) := by decide +kernel
theorem dX4_within_2 : decode cX4_within 2 = .ok (.if_icmp .lt 12, 3) := by decide +kernel
theorem dX4_within_5 : decode cX4_within 5 = .ok (.iload_n 0, 1) := by decide +kernel
theorem dX4_within_6 : decode cX4_within 6 = .ok (.iload_n 2, 1) := by decide +kernel
theorem dX4_within_7 : decode cX4_within 7 = .ok (.if_icmp .gt 7, 3) := by decide +kernel
theorem dX4_within_10 : decode cX4_within 10 = .ok (.iconst 1, 1) := by decide +kernel
theorem dX4_within_11 : decode cX4_within 11 = .ok (.goto 4, 3) := by decide +kernel
theorem dX4_within_14 : decode cX4_within 14 = .ok (.iconst 0, 1) := by decide +kernel
theorem dX4_within_15 : decode cX4_within 15 = .ok (.ireturn, 1) := by decide +kernel
set_option maxRecDepth 20000 in
theorem ggX4_isPart_X4_within : GoodIn wsX4_isPart wsX4_within := goodIn_r _ [4] (by decide +kernel) (by decide +kernel)
set_option maxRecDepth 20000 in
theorem gX4_isPart_X4_within : GoodIn wsX4_isPart (va_wsS RX4 81 yX4_within wsX4_within) := goodIn_app (goodIn_of _ (by decide +kernel)) ggX4_isPart_X4_within
theorem dX4_isPart_0 : decode cX4_isPart 0 = .ok (.iload_n 0, 1) := by decide +kernel
theorem dX4_isPart_1 : decode cX4_isPart 1 = .ok (.iconst 0, 1) := by decide +kernel
theorem dX4_isPart_2 : decode cX4_isPart 2 = .ok (.iconst 4, 1) := by decide +kernel
theorem dX4_isPart_3 : decode cX4_isPart 3 = .ok (.invokestatic 81, 3) := by decide +kernel
theorem dX4_isPart_6 : decode cX4_isPart 6 = .ok (.ireturn, 1) := by decide +kernel
set_option maxRecDepth 20000 in
theorem ggX4_visitError_X4_within : GoodIn wsX4_visitError wsX4_within := goodIn_r _ [4] (by decide +kernel) (by decide +kernel)
set_option maxRecDepth 20000 in
theorem gX4_visitError_X4_within : GoodIn wsX4_visitError (va_wsS RX4 81 yX4_within wsX4_within) := goodIn_app (goodIn_of _ (by decide +kernel)) ggX4_visitError_X4_within
set_option maxRecDepth 20000 in
theorem ggX4_visitError_X4_isPart : GoodIn wsX4_visitError wsX4_isPart := goodIn_r _ [7, 1, 2, 3, 4] (by decide +kernel) (by decide +kernel)
set_option maxRecDepth 20000 in
theorem gX4_visitError_X4_isPart : GoodIn wsX4_visitError (va_wsS RX4 100 yX4_isPart wsX4_isPart) := goodIn_app (goodIn_of _ (by decide +kernel)) ggX4_visitError_X4_isPart
theorem dX4_visitError_0 : decode cX4_visitError 0 = .ok (.iload_n 1, 1) := by decide +kernel
theorem dX4_visitError_1 : decode cX4_visitError 1 = .ok (.iconst 0, 1) := by decide +kernel
theorem dX4_visitError_2 : decode cX4_visitError 2 = .ok (.iconst 3, 1) := by decide +kernel
theorem dX4_visitError_3 : decode cX4_visitError 3 = .ok (.invokestatic 81, 3) := by decide +kernel
theorem dX4_visitError_6 : decode cX4_visitError 6 = .ok (.ifCond .eq 10, 3) := by decide +kernel
theorem dX4_visitError_9 : decode cX4_visitError 9 = .ok (.iload_n 2, 1) := by decide +kernel
theorem dX4_visitError_10 : decode cX4_visitError 10 = .ok (.invokestatic 100, 3) := by decide +kernel
theorem dX4_visitError_13 : decode cX4_visitError 13 = .ok (.ifCond .ne 5, 3) := by decide +kernel
theorem dX4_visitError_16 : decode cX4_visitError 16 = .ok (.iconst (-1), 1) := by decide +kernel
theorem dX4_visitError_17 : decode cX4_visitError 17 = .ok (.ireturn, 1) := by decide +kernel
theorem dX4_visitError_18 : decode cX4_visitError 18 = .ok (.iload_n 0, 1) := by decide +kernel
theorem dX4_visitError_19 : decode cX4_visitError 19 = .ok (.iconst 0, 1) := by decide +kernel
theorem dX4_visitError_20 : decode cX4_visitError 20 = .ok (.bipush 99, 2) := by decide +kernel
theorem dX4_visitError_22 : decode cX4_visitError 22 = .ok (.invokestatic 81, 3) := by decide +kernel
theorem dX4_visitError_25 : decode cX4_visitError 25 = .ok (.ifCond .eq 13, 3) := by decide +kernel
theorem dX4_visitError_28 : decode cX4_visitError 28 = .ok (.iload_n 3, 1) := by decide +kernel
theorem dX4_visitError_29 : decode cX4_visitError 29 = .ok (.iconst 0, 1) := by decide +kernel
theorem dX4_visitError_30 : decode cX4_visitError 30 = .ok (.bipush 9, 2) := by decide +kernel
theorem dX4_visitError_32 : decode cX4_visitError 32 = .ok (.invokestatic 81, 3) := by decide +kernel
theorem dX4_visitError_35 : decode cX4_visitError 35 = .ok (.ifCond .ne 6, 3) := by decide +kernel
theorem dX4_visitError_38 : decode cX4_visitError 38 = .ok (.bipush (-2), 2) := by decide +kernel
theorem dX4_visitError_40 : decode cX4_visitError 40 = .ok (.ireturn, 1) := by decide +kernel
theorem dX4_visitError_41 : decode cX4_visitError 41 = .ok (.iload 4, 2) := by decide +kernel
theorem dX4_visitError_43 : decode cX4_visitError 43 = .ok (.iconst 0, 1) := by decide +kernel
theorem dX4_visitError_44 : decode cX4_visitError 44 = .ok (.sipush 999, 3) := by decide +kernel
theorem dX4_visitError_47 : decode cX4_visitError 47 = .ok (.invokestatic 81, 3) := by decide +kernel
theorem dX4_visitError_50 : decode cX4_visitError 50 = .ok (.ifCond .eq 16, 3) := by decide +kernel
theorem dX4_visitError_53 : decode cX4_visitError 53 = .ok (.iload 5, 2) := by decide +kernel
theorem dX4_visitError_55 : decode cX4_visitError 55 = .ok (.iload 4, 2) := by decide +kernel
theorem dX4_visitError_57 : decode cX4_visitError 57 = .ok (.sipush 999, 3) := by decide +kernel
theorem dX4_visitError_60 : decode cX4_visitError 60 = .ok (.invokestatic 81, 3) := by decide +kernel
theorem dX4_visitError_63 : decode cX4_visitError 63 = .ok (.ifCond .ne 6, 3) := by decide +kernel
theorem dX4_visitError_66 : decode cX4_visitError 66 = .ok (.bipush (-2), 2) := by decide +kernel
theorem dX4_visitError_68 : decode cX4_visitError 68 = .ok (.ireturn, 1) := by decide +kernel
theorem dX4_visitError_69 : decode cX4_visitError 69 = .ok (.iconst 0, 1) := by decide +kernel
theorem dX4_visitError_70 : decode cX4_visitError 70 = .ok (.ireturn, 1) := by decide +kernel
theorem dX4_bitsOf_0 : decode cX4_bitsOf 0 = .ok (.dload_n 0, 1) := by decide +kernel
theorem dX4_bitsOf_1 : decode cX4_bitsOf 1 = .ok (.dconst 0, 1) := by decide +kernel
theorem dX4_bitsOf_2 : decode cX4_bitsOf 2 = .ok (.dcmp .g, 1) := by decide +kernel
theorem dX4_bitsOf_3 : decode cX4_bitsOf 3 = .ok (.ifCond .gt 5, 3) := by decide +kernel
theorem dX4_bitsOf_6 : decode cX4_bitsOf 6 = .ok (.lconst 0, 1) := by decide +kernel
theorem dX4_bitsOf_7 : decode cX4_bitsOf 7 = .ok (.lreturn, 1) := by decide +kernel
theorem dX4_bitsOf_8 : decode cX4_bitsOf 8 = .ok (.dload_n 0, 1) := by decide +kernel
theorem dX4_bitsOf_9 : decode cX4_bitsOf 9 = .ok (.dstore 4, 2) := by decide +kernel
theorem dX4_bitsOf_11 : decode cX4_bitsOf 11 = .ok (.iload_n 3, 1) := by decide +kernel
theorem dX4_bitsOf_12 : decode cX4_bitsOf 12 = .ok (.istore 6, 2) := by decide +kernel
theorem dX4_bitsOf_14 : decode cX4_bitsOf 14 = .ok (.dload 4, 2) := by decide +kernel
theorem dX4_bitsOf_16 : decode cX4_bitsOf 16 = .ok (.ldc2_w 205, 3) := by decide +kernel
theorem dX4_bitsOf_19 : decode cX4_bitsOf 19 = .ok (.dcmp .l, 1) := by decide +kernel
theorem dX4_bitsOf_20 : decode cX4_bitsOf 20 = .ok (.ifCond .lt 25, 3) := by decide +kernel
theorem dX4_bitsOf_23 : decode cX4_bitsOf 23 = .ok (.iload 6, 2) := by decide +kernel
theorem dX4_bitsOf_25 : decode cX4_bitsOf 25 = .ok (.iconst 2, 1) := by decide +kernel
theorem dX4_bitsOf_26 : decode cX4_bitsOf 26 = .ok (.iload_n 3, 1) := by decide +kernel
theorem dX4_bitsOf_27 : decode cX4_bitsOf 27 = .ok (.imul, 1) := by decide +kernel
theorem dX4_bitsOf_28 : decode cX4_bitsOf 28 = .ok (.if_icmp .ge 17, 3) := by decide +kernel
theorem dX4_bitsOf_31 : decode cX4_bitsOf 31 = .ok (.dload 4, 2) := by decide +kernel
theorem dX4_bitsOf_33 : decode cX4_bitsOf 33 = .ok (.ldc2_w 205, 3) := by decide +kernel
theorem dX4_bitsOf_36 : decode cX4_bitsOf 36 = .ok (.ddiv, 1) := by decide +kernel
theorem dX4_bitsOf_37 : decode cX4_bitsOf 37 = .ok (.dstore 4, 2) := by decide +kernel
theorem dX4_bitsOf_39 : decode cX4_bitsOf 39 = .ok (.iinc 6 1, 3) := by decide +kernel
theorem dX4_bitsOf_42 : decode cX4_bitsOf 42 = .ok (.goto (-28), 3) := by decide +kernel
theorem dX4_bitsOf_45 : decode cX4_bitsOf 45 = .ok (.dload 4, 2) := by decide +kernel
theorem dX4_bitsOf_47 : decode cX4_bitsOf 47 = .ok (.dconst 1, 1) := by decide +kernel
theorem dX4_bitsOf_48 : decode cX4_bitsOf 48 = .ok (.dcmp .g, 1) := by decide +kernel
theorem dX4_bitsOf_49 : decode cX4_bitsOf 49 = .ok (.ifCond .ge 23, 3) := by decide +kernel
theorem dX4_bitsOf_52 : decode cX4_bitsOf 52 = .ok (.iload 6, 2) := by decide +kernel
theorem dX4_bitsOf_54 : decode cX4_bitsOf 54 = .ok (.iconst 1, 1) := by decide +kernel
theorem dX4_bitsOf_55 : decode cX4_bitsOf 55 = .ok (.if_icmp .le 17, 3) := by decide +kernel
theorem dX4_bitsOf_58 : decode cX4_bitsOf 58 = .ok (.dload 4, 2) := by decide +kernel
theorem dX4_bitsOf_60 : decode cX4_bitsOf 60 = .ok (.ldc2_w 205, 3) := by decide +kernel
theorem dX4_bitsOf_63 : decode cX4_bitsOf 63 = .ok (.dmul, 1) := by decide +kernel
theorem dX4_bitsOf_64 : decode cX4_bitsOf 64 = .ok (.dstore 4, 2) := by decide +kernel
theorem dX4_bitsOf_66 : decode cX4_bitsOf 66 = .ok (.iinc 6 (-1), 3) := by decide +kernel
theorem dX4_bitsOf_69 : decode cX4_bitsOf 69 = .ok (.goto (-24), 3) := by decide +kernel
theorem dX4_bitsOf_72 : decode cX4_bitsOf 72 = .ok (.dload 4, 2) := by decide +kernel
theorem dX4_bitsOf_74 : decode cX4_bitsOf 74 = .ok (.dconst 1, 1) := by decide +kernel
theorem dX4_bitsOf_75 : decode cX4_bitsOf 75 = .ok (.dsub, 1) := by decide +kernel
theorem dX4_bitsOf_76 : decode cX4_bitsOf 76 = .ok (.lconst 1, 1) := by decide +kernel
theorem dX4_bitsOf_77 : decode cX4_bitsOf 77 = .ok (.iload_n 2, 1) := by decide +kernel
theorem dX4_bitsOf_78 : decode cX4_bitsOf 78 = .ok (.lshl, 1) := by decide +kernel
theorem dX4_bitsOf_79 : decode cX4_bitsOf 79 = .ok (.l2d, 1) := by decide +kernel
theorem dX4_bitsOf_80 : decode cX4_bitsOf 80 = .ok (.dmul, 1) := by decide +kernel
theorem dX4_bitsOf_81 : decode cX4_bitsOf 81 = .ok (.d2l, 1) := by decide +kernel
theorem dX4_bitsOf_82 : decode cX4_bitsOf 82 = .ok (.lstore 7, 2) := by decide +kernel
theorem dX4_bitsOf_84 : decode cX4_bitsOf 84 = .ok (.iload 6, 2) := by decide +kernel
theorem dX4_bitsOf_86 : decode cX4_bitsOf 86 = .ok (.i2l, 1) := by decide +kernel
theorem dX4_bitsOf_87 : decode cX4_bitsOf 87 = .ok (.iload_n 2, 1) := by decide +kernel
theorem dX4_bitsOf_88 : decode cX4_bitsOf 88 = .ok (.lshl, 1) := by decide +kernel
theorem dX4_bitsOf_89 : decode cX4_bitsOf 89 = .ok (.lload 7, 2) := by decide +kernel
theorem dX4_bitsOf_91 : decode cX4_bitsOf 91 = .ok (.lor, 1) := by decide +kernel
theorem dX4_bitsOf_92 : decode cX4_bitsOf 92 = .ok (.lreturn, 1) := by decide +kernel
