theorem dX3_init_0 : decode cX3_init 0 = .ok (.aload_n 0, 1) := by decide +kernel
theorem dX3_init_1 : decode cX3_init 1 = .ok (.invokespecial 3, 3) := by decide +kernel
theorem dX3_init_4 : decode cX3_init 4 = .ok (.aload_n 0, 1) := by decide +kernel
theorem dX3_init_5 : decode cX3_init 5 = .ok (.getstatic 9, 3) := by decide +kernel
theorem dX3_init_8 : decode cX3_init 8 = .ok (.invokevirtual 13, 3) := by decide +kernel
theorem dX3_init_11 : decode cX3_init 11 = .ok (.checkcast 14, 3) := by decide +kernel
theorem dX3_init_14 : decode cX3_init 14 = .ok (.putfield 18, 3) := by decide +kernel
theorem dX3_init_17 : decode cX3_init 17 = .ok (.aload_n 0, 1) := by decide +kernel
theorem dX3_init_18 : decode cX3_init 18 = .ok (.bipush 126, 2) := by decide +kernel
theorem dX3_init_20 : decode cX3_init 20 = .ok (.newarray .int, 2) := by decide +kernel
theorem dX3_init_22 : decode cX3_init 22 = .ok (.putfield 23, 3) := by decide +kernel
theorem dX3_init_25 : decode cX3_init 25 = .ok (.aload_n 0, 1) := by decide +kernel
theorem dX3_init_26 : decode cX3_init 26 = .ok (.bipush 8, 2) := by decide +kernel
theorem dX3_init_28 : decode cX3_init 28 = .ok (.newarray .int, 2) := by decide +kernel
theorem dX3_init_30 : decode cX3_init 30 = .ok (.putfield 26, 3) := by decide +kernel
theorem dX3_init_33 : decode cX3_init 33 = .ok (.aload_n 0, 1) := by decide +kernel
theorem dX3_init_34 : decode cX3_init 34 = .ok (.bipush 20, 2) := by decide +kernel
theorem dX3_init_36 : decode cX3_init 36 = .ok (.newarray .int, 2) := by decide +kernel
theorem dX3_init_38 : decode cX3_init 38 = .ok (.putfield 29, 3) := by decide +kernel
theorem dX3_init_41 : decode cX3_init 41 = .ok (.return_, 1) := by decide +kernel
theorem dX3_copyFrom_0 : decode cX3_copyFrom 0 = .ok (.aload_n 1, 1) := by decide +kernel
theorem dX3_copyFrom_1 : decode cX3_copyFrom 1 = .ok (.getfield 18, 3) := by decide +kernel
theorem dX3_copyFrom_4 : decode cX3_copyFrom 4 = .ok (.iconst 0, 1) := by decide +kernel
theorem dX3_copyFrom_5 : decode cX3_copyFrom 5 = .ok (.aload_n 0, 1) := by decide +kernel
theorem dX3_copyFrom_6 : decode cX3_copyFrom 6 = .ok (.getfield 18, 3) := by decide +kernel
theorem dX3_copyFrom_9 : decode cX3_copyFrom 9 = .ok (.iconst 0, 1) := by decide +kernel
theorem dX3_copyFrom_10 : decode cX3_copyFrom 10 = .ok (.iconst 3, 1) := by decide +kernel
theorem dX3_copyFrom_11 : decode cX3_copyFrom 11 = .ok (.invokestatic 32, 3) := by decide +kernel
theorem dX3_copyFrom_14 : decode cX3_copyFrom 14 = .ok (.aload_n 1, 1) := by decide +kernel
theorem dX3_copyFrom_15 : decode cX3_copyFrom 15 = .ok (.getfield 23, 3) := by decide +kernel
theorem dX3_copyFrom_18 : decode cX3_copyFrom 18 = .ok (.iconst 0, 1) := by decide +kernel
theorem dX3_copyFrom_19 : decode cX3_copyFrom 19 = .ok (.aload_n 0, 1) := by decide +kernel
theorem dX3_copyFrom_20 : decode cX3_copyFrom 20 = .ok (.getfield 23, 3) := by decide +kernel
theorem dX3_copyFrom_23 : decode cX3_copyFrom 23 = .ok (.iconst 0, 1) := by decide +kernel
theorem dX3_copyFrom_24 : decode cX3_copyFrom 24 = .ok (.aload_n 0, 1) := by decide +kernel
theorem dX3_copyFrom_25 : decode cX3_copyFrom 25 = .ok (.getfield 23, 3) := by decide +kernel
theorem dX3_copyFrom_28 : decode cX3_copyFrom 28 = .ok (.arraylength, 1) := by decide +kernel
theorem dX3_copyFrom_29 : decode cX3_copyFrom 29 = .ok (.invokestatic 32, 3) := by decide +kernel
theorem dX3_copyFrom_32 : decode cX3_copyFrom 32 = .ok (.aload_n 1, 1) := by decide +kernel
theorem dX3_copyFrom_33 : decode cX3_copyFrom 33 = .ok (.getfield 26, 3) := by decide +kernel
theorem dX3_copyFrom_36 : decode cX3_copyFrom 36 = .ok (.iconst 0, 1) := by decide +kernel
theorem dX3_copyFrom_37 : decode cX3_copyFrom 37 = .ok (.aload_n 0, 1) := by decide +kernel
theorem dX3_copyFrom_38 : decode cX3_copyFrom 38 = .ok (.getfield 26, 3) := by decide +kernel
theorem dX3_copyFrom_41 : decode cX3_copyFrom 41 = .ok (.iconst 0, 1) := by decide +kernel
theorem dX3_copyFrom_42 : decode cX3_copyFrom 42 = .ok (.aload_n 0, 1) := by decide +kernel
theorem dX3_copyFrom_43 : decode cX3_copyFrom 43 = .ok (.getfield 26, 3) := by decide +kernel
theorem dX3_copyFrom_46 : decode cX3_copyFrom 46 = .ok (.arraylength, 1) := by decide +kernel
theorem dX3_copyFrom_47 : decode cX3_copyFrom 47 = .ok (.invokestatic 32, 3) := by decide +kernel
theorem dX3_copyFrom_50 : decode cX3_copyFrom 50 = .ok (.aload_n 1, 1) := by decide +kernel
theorem dX3_copyFrom_51 : decode cX3_copyFrom 51 = .ok (.getfield 29, 3) := by decide +kernel
theorem dX3_copyFrom_54 : decode cX3_copyFrom 54 = .ok (.iconst 0, 1) := by decide +kernel
theorem dX3_copyFrom_55 : decode cX3_copyFrom 55 = .ok (.aload_n 0, 1) := by decide +kernel
theorem dX3_copyFrom_56 : decode cX3_copyFrom 56 = .ok (.getfield 29, 3) := by decide +kernel
theorem dX3_copyFrom_59 : decode cX3_copyFrom 59 = .ok (.iconst 0, 1) := by decide +kernel
theorem dX3_copyFrom_60 : decode cX3_copyFrom 60 = .ok (.aload_n 0, 1) := by decide +kernel
theorem dX3_copyFrom_61 : decode cX3_copyFrom 61 = .ok (.getfield 29, 3) := by decide +kernel
theorem dX3_copyFrom_64 : decode cX3_copyFrom 64 = .ok (.arraylength, 1) := by decide +kernel
theorem dX3_copyFrom_65 : decode cX3_copyFrom 65 = .ok (.invokestatic 32, 3) := by decide +kernel
theorem dX3_copyFrom_68 : decode cX3_copyFrom 68 = .ok (.aload_n 0, 1) := by decide +kernel
theorem dX3_copyFrom_69 : decode cX3_copyFrom 69 = .ok (.aload_n 1, 1) := by decide +kernel
theorem dX3_copyFrom_70 : decode cX3_copyFrom 70 = .ok (.getfield 38, 3) := by decide +kernel
theorem dX3_copyFrom_73 : decode cX3_copyFrom 73 = .ok (.putfield 38, 3) := by decide +kernel
theorem dX3_copyFrom_76 : decode cX3_copyFrom 76 = .ok (.aload_n 0, 1) := by decide +kernel
theorem dX3_copyFrom_77 : decode cX3_copyFrom 77 = .ok (.aload_n 1, 1) := by decide +kernel
theorem dX3_copyFrom_78 : decode cX3_copyFrom 78 = .ok (.getfield 42, 3) := by decide +kernel
theorem dX3_copyFrom_81 : decode cX3_copyFrom 81 = .ok (.putfield 42, 3) := by decide +kernel
theorem dX3_copyFrom_84 : decode cX3_copyFrom 84 = .ok (.return_, 1) := by decide +kernel
theorem dX3_hasVisit_0 : decode cX3_hasVisit 0 = .ok (.iload_n 1, 1) := by decide +kernel
theorem dX3_hasVisit_1 : decode cX3_hasVisit 1 = .ok (.ifCond .lt 15, 3) := by decide +kernel
theorem dX3_hasVisit_4 : decode cX3_hasVisit 4 = .ok (.iload_n 1, 1) := by decide +kernel
theorem dX3_hasVisit_5 : decode cX3_hasVisit 5 = .ok (.aload_n 0, 1) := by decide +kernel
theorem dX3_hasVisit_6 : decode cX3_hasVisit 6 = .ok (.getfield 38, 3) := by decide +kernel
theorem dX3_hasVisit_9 : decode cX3_hasVisit 9 = .ok (.if_icmp .ge 7, 3) := by decide +kernel
theorem dX3_hasVisit_12 : decode cX3_hasVisit 12 = .ok (.iconst 1, 1) := by decide +kernel
theorem dX3_hasVisit_13 : decode cX3_hasVisit 13 = .ok (.goto 4, 3) := by decide +kernel
theorem dX3_hasVisit_16 : decode cX3_hasVisit 16 = .ok (.iconst 0, 1) := by decide +kernel
theorem dX3_hasVisit_17 : decode cX3_hasVisit 17 = .ok (.ireturn, 1) := by decide +kernel
theorem dX3_hasVan_0 : decode cX3_hasVan 0 = .ok (.iload_n 1, 1) := by decide +kernel
theorem dX3_hasVan_1 : decode cX3_hasVan 1 = .ok (.ifCond .lt 15, 3) := by decide +kernel
theorem dX3_hasVan_4 : decode cX3_hasVan 4 = .ok (.iload_n 1, 1) := by decide +kernel
theorem dX3_hasVan_5 : decode cX3_hasVan 5 = .ok (.aload_n 0, 1) := by decide +kernel
theorem dX3_hasVan_6 : decode cX3_hasVan 6 = .ok (.getfield 42, 3) := by decide +kernel
theorem dX3_hasVan_9 : decode cX3_hasVan 9 = .ok (.if_icmp .ge 7, 3) := by decide +kernel
theorem dX3_hasVan_12 : decode cX3_hasVan 12 = .ok (.iconst 1, 1) := by decide +kernel
theorem dX3_hasVan_13 : decode cX3_hasVan 13 = .ok (.goto 4, 3) := by decide +kernel
theorem dX3_hasVan_16 : decode cX3_hasVan 16 = .ok (.iconst 0, 1) := by decide +kernel
theorem dX3_hasVan_17 : decode cX3_hasVan 17 = .ok (.ireturn, 1) := by decide +kernel
theorem dX3_visitFact_0 : decode cX3_visitFact 0 = .ok (.aload_n 0, 1) := by decide +kernel
theorem dX3_visitFact_1 : decode cX3_visitFact 1 = .ok (.getfield 23, 3) := by decide +kernel
theorem dX3_visitFact_4 : decode cX3_visitFact 4 = .ok (.iload_n 1, 1) := by decide +kernel
theorem dX3_visitFact_5 : decode cX3_visitFact 5 = .ok (.bipush 6, 2) := by decide +kernel
theorem dX3_visitFact_7 : decode cX3_visitFact 7 = .ok (.imul, 1) := by decide +kernel
theorem dX3_visitFact_8 : decode cX3_visitFact 8 = .ok (.iload_n 2, 1) := by decide +kernel
theorem dX3_visitFact_9 : decode cX3_visitFact 9 = .ok (.iadd, 1) := by decide +kernel
theorem dX3_visitFact_10 : decode cX3_visitFact 10 = .ok (.iaload, 1) := by decide +kernel
theorem dX3_visitFact_11 : decode cX3_visitFact 11 = .ok (.ireturn, 1) := by decide +kernel
theorem dX3_vanFact_0 : decode cX3_vanFact 0 = .ok (.aload_n 0, 1) := by decide +kernel
theorem dX3_vanFact_1 : decode cX3_vanFact 1 = .ok (.getfield 26, 3) := by decide +kernel
theorem dX3_vanFact_4 : decode cX3_vanFact 4 = .ok (.iload_n 1, 1) := by decide +kernel
theorem dX3_vanFact_5 : decode cX3_vanFact 5 = .ok (.iconst 2, 1) := by decide +kernel
theorem dX3_vanFact_6 : decode cX3_vanFact 6 = .ok (.imul, 1) := by decide +kernel
theorem dX3_vanFact_7 : decode cX3_vanFact 7 = .ok (.iload_n 2, 1) := by decide +kernel
theorem dX3_vanFact_8 : decode cX3_vanFact 8 = .ok (.iadd, 1) := by decide +kernel
theorem dX3_vanFact_9 : decode cX3_vanFact 9 = .ok (.iaload, 1) := by decide +kernel
theorem dX3_vanFact_10 : decode cX3_vanFact 10 = .ok (.ireturn, 1) := by decide +kernel
theorem dX3_partsOf_0 : decode cX3_partsOf 0 = .ok (.aload_n 0, 1) := by decide +kernel
theorem dX3_partsOf_1 : decode cX3_partsOf 1 = .ok (.getfield 29, 3) := by decide +kernel
theorem dX3_partsOf_4 : decode cX3_partsOf 4 = .ok (.iload_n 1, 1) := by decide +kernel
theorem dX3_partsOf_5 : decode cX3_partsOf 5 = .ok (.iconst 5, 1) := by decide +kernel
theorem dX3_partsOf_6 : decode cX3_partsOf 6 = .ok (.imul, 1) := by decide +kernel
theorem dX3_partsOf_7 : decode cX3_partsOf 7 = .ok (.iload_n 2, 1) := by decide +kernel
theorem dX3_partsOf_8 : decode cX3_partsOf 8 = .ok (.iadd, 1) := by decide +kernel
theorem dX3_partsOf_9 : decode cX3_partsOf 9 = .ok (.iaload, 1) := by decide +kernel
theorem dX3_partsOf_10 : decode cX3_partsOf 10 = .ok (.ireturn, 1) := by decide +kernel
set_option maxRecDepth 20000 in
theorem ggX3_changeSetting_X4_within : GoodIn wsX3_changeSetting wsX4_within := goodIn_r _ [4] (by decide +kernel) (by decide +kernel)
set_option maxRecDepth 20000 in
theorem gX3_changeSetting_X4_within_n45 : GoodIn wsX3_changeSetting (wsX4_within) := ggX3_changeSetting_X4_within
theorem dX3_changeSetting_0 : decode cX3_changeSetting 0 = .ok (.iload_n 1, 1) := by decide +kernel
theorem dX3_changeSetting_1 : decode cX3_changeSetting 1 = .ok (.iconst 0, 1) := by decide +kernel
theorem dX3_changeSetting_2 : decode cX3_changeSetting 2 = .ok (.iconst 2, 1) := by decide +kernel
theorem dX3_changeSetting_3 : decode cX3_changeSetting 3 = .ok (.invokestatic 45, 3) := by decide +kernel
theorem dX3_changeSetting_6 : decode cX3_changeSetting 6 = .ok (.ifCond .ne 6, 3) := by decide +kernel
theorem dX3_changeSetting_9 : decode cX3_changeSetting 9 = .ok (.bipush (-2), 2) := by decide +kernel
theorem dX3_changeSetting_11 : decode cX3_changeSetting 11 = .ok (.ireturn, 1) := by decide +kernel
theorem dX3_changeSetting_12 : decode cX3_changeSetting 12 = .ok (.iload_n 2, 1) := by decide +kernel
theorem dX3_changeSetting_13 : decode cX3_changeSetting 13 = .ok (.getstatic 49, 3) := by decide +kernel
theorem dX3_changeSetting_16 : decode cX3_changeSetting 16 = .ok (.iload_n 1, 1) := by decide +kernel
theorem dX3_changeSetting_17 : decode cX3_changeSetting 17 = .ok (.iaload, 1) := by decide +kernel
theorem dX3_changeSetting_18 : decode cX3_changeSetting 18 = .ok (.getstatic 52, 3) := by decide +kernel
theorem dX3_changeSetting_21 : decode cX3_changeSetting 21 = .ok (.iload_n 1, 1) := by decide +kernel
theorem dX3_changeSetting_22 : decode cX3_changeSetting 22 = .ok (.iaload, 1) := by decide +kernel
theorem dX3_changeSetting_23 : decode cX3_changeSetting 23 = .ok (.invokestatic 45, 3) := by decide +kernel
theorem dX3_changeSetting_26 : decode cX3_changeSetting 26 = .ok (.ifCond .ne 6, 3) := by decide +kernel
theorem dX3_changeSetting_29 : decode cX3_changeSetting 29 = .ok (.bipush (-2), 2) := by decide +kernel
theorem dX3_changeSetting_31 : decode cX3_changeSetting 31 = .ok (.ireturn, 1) := by decide +kernel
theorem dX3_changeSetting_32 : decode cX3_changeSetting 32 = .ok (.aload_n 0, 1) := by decide +kernel
theorem dX3_changeSetting_33 : decode cX3_changeSetting 33 = .ok (.getfield 18, 3) := by decide +kernel
theorem dX3_changeSetting_36 : decode cX3_changeSetting 36 = .ok (.iload_n 1, 1) := by decide +kernel
theorem dX3_changeSetting_37 : decode cX3_changeSetting 37 = .ok (.iaload, 1) := by decide +kernel
theorem dX3_changeSetting_38 : decode cX3_changeSetting 38 = .ok (.istore_n 3, 1) := by decide +kernel
theorem dX3_changeSetting_39 : decode cX3_changeSetting 39 = .ok (.aload_n 0, 1) := by decide +kernel
theorem dX3_changeSetting_40 : decode cX3_changeSetting 40 = .ok (.getfield 18, 3) := by decide +kernel
theorem dX3_changeSetting_43 : decode cX3_changeSetting 43 = .ok (.iload_n 1, 1) := by decide +kernel
theorem dX3_changeSetting_44 : decode cX3_changeSetting 44 = .ok (.iload_n 2, 1) := by decide +kernel
theorem dX3_changeSetting_45 : decode cX3_changeSetting 45 = .ok (.iastore, 1) := by decide +kernel
theorem dX3_changeSetting_46 : decode cX3_changeSetting 46 = .ok (.iload_n 3, 1) := by decide +kernel
theorem dX3_changeSetting_47 : decode cX3_changeSetting 47 = .ok (.ireturn, 1) := by decide +kernel
set_option maxRecDepth 20000 in
theorem ggX3_addVisit_X4_visitError : GoodIn wsX3_addVisit wsX4_visitError := goodIn_r _ [4, 5, 6, 3, 7, 8, 9, 10] (by decide +kernel) (by decide +kernel)
set_option maxRecDepth 20000 in
theorem gX3_addVisit_X4_visitError_n55 : GoodIn wsX3_addVisit (wsX4_visitError) := ggX3_addVisit_X4_visitError
set_option maxRecDepth 20000 in
theorem ggX3_addVisit_X3_putVisit : GoodIn wsX3_addVisit wsX3_putVisit := goodIn_r _ [15, 1, 16, 17, 18, 19, 20, 21, 22] (by decide +kernel) (by decide +kernel)
set_option maxRecDepth 20000 in
theorem gX3_addVisit_X3_putVisit : GoodIn wsX3_addVisit (wsV RX3 59 RX3 yX3_putVisit wsX3_putVisit) := goodIn_app (goodIn_of _ (by decide +kernel)) ggX3_addVisit_X3_putVisit
theorem dX3_addVisit_0 : decode cX3_addVisit 0 = .ok (.iload_n 1, 1) := by decide +kernel
theorem dX3_addVisit_1 : decode cX3_addVisit 1 = .ok (.iload_n 2, 1) := by decide +kernel
theorem dX3_addVisit_2 : decode cX3_addVisit 2 = .ok (.iload_n 3, 1) := by decide +kernel
theorem dX3_addVisit_3 : decode cX3_addVisit 3 = .ok (.iload 4, 2) := by decide +kernel
theorem dX3_addVisit_5 : decode cX3_addVisit 5 = .ok (.iload 5, 2) := by decide +kernel
theorem dX3_addVisit_7 : decode cX3_addVisit 7 = .ok (.iload 6, 2) := by decide +kernel
theorem dX3_addVisit_9 : decode cX3_addVisit 9 = .ok (.invokestatic 55, 3) := by decide +kernel
theorem dX3_addVisit_12 : decode cX3_addVisit 12 = .ok (.istore 7, 2) := by decide +kernel
theorem dX3_addVisit_14 : decode cX3_addVisit 14 = .ok (.iload 7, 2) := by decide +kernel
theorem dX3_addVisit_16 : decode cX3_addVisit 16 = .ok (.ifCond .eq 6, 3) := by decide +kernel
theorem dX3_addVisit_19 : decode cX3_addVisit 19 = .ok (.iload 7, 2) := by decide +kernel
theorem dX3_addVisit_21 : decode cX3_addVisit 21 = .ok (.ireturn, 1) := by decide +kernel
theorem dX3_addVisit_22 : decode cX3_addVisit 22 = .ok (.aload_n 0, 1) := by decide +kernel
theorem dX3_addVisit_23 : decode cX3_addVisit 23 = .ok (.getfield 38, 3) := by decide +kernel
theorem dX3_addVisit_26 : decode cX3_addVisit 26 = .ok (.bipush 20, 2) := by decide +kernel
theorem dX3_addVisit_28 : decode cX3_addVisit 28 = .ok (.if_icmp .lt 6, 3) := by decide +kernel
theorem dX3_addVisit_31 : decode cX3_addVisit 31 = .ok (.bipush (-4), 2) := by decide +kernel
theorem dX3_addVisit_33 : decode cX3_addVisit 33 = .ok (.ireturn, 1) := by decide +kernel
theorem dX3_addVisit_34 : decode cX3_addVisit 34 = .ok (.aload_n 0, 1) := by decide +kernel
theorem dX3_addVisit_35 : decode cX3_addVisit 35 = .ok (.iload_n 1, 1) := by decide +kernel
theorem dX3_addVisit_36 : decode cX3_addVisit 36 = .ok (.iload_n 2, 1) := by decide +kernel
theorem dX3_addVisit_37 : decode cX3_addVisit 37 = .ok (.iload_n 3, 1) := by decide +kernel
theorem dX3_addVisit_38 : decode cX3_addVisit 38 = .ok (.iload 4, 2) := by decide +kernel
theorem dX3_addVisit_40 : decode cX3_addVisit 40 = .ok (.iload 5, 2) := by decide +kernel
theorem dX3_addVisit_42 : decode cX3_addVisit 42 = .ok (.iload 6, 2) := by decide +kernel
theorem dX3_addVisit_44 : decode cX3_addVisit 44 = .ok (.invokevirtual 59, 3) := by decide +kernel
theorem dX3_addVisit_47 : decode cX3_addVisit 47 = .ok (.ireturn, 1) := by decide +kernel
theorem dX3_putVisit_0 : decode cX3_putVisit 0 = .ok (.aload_n 0, 1) := by decide +kernel
theorem dX3_putVisit_1 : decode cX3_putVisit 1 = .ok (.getfield 38, 3) := by decide +kernel
theorem dX3_putVisit_4 : decode cX3_putVisit 4 = .ok (.bipush 21, 2) := by decide +kernel
theorem dX3_putVisit_6 : decode cX3_putVisit 6 = .ok (.if_icmp .lt 6, 3) := by decide +kernel
theorem dX3_putVisit_9 : decode cX3_putVisit 9 = .ok (.bipush (-4), 2) := by decide +kernel
theorem dX3_putVisit_11 : decode cX3_putVisit 11 = .ok (.ireturn, 1) := by decide +kernel
theorem dX3_putVisit_12 : decode cX3_putVisit 12 = .ok (.aload_n 0, 1) := by decide +kernel
theorem dX3_putVisit_13 : decode cX3_putVisit 13 = .ok (.getfield 38, 3) := by decide +kernel
theorem dX3_putVisit_16 : decode cX3_putVisit 16 = .ok (.bipush 6, 2) := by decide +kernel
theorem dX3_putVisit_18 : decode cX3_putVisit 18 = .ok (.imul, 1) := by decide +kernel
theorem dX3_putVisit_19 : decode cX3_putVisit 19 = .ok (.istore 7, 2) := by decide +kernel
theorem dX3_putVisit_21 : decode cX3_putVisit 21 = .ok (.aload_n 0, 1) := by decide +kernel
theorem dX3_putVisit_22 : decode cX3_putVisit 22 = .ok (.getfield 23, 3) := by decide +kernel
theorem dX3_putVisit_25 : decode cX3_putVisit 25 = .ok (.iload 7, 2) := by decide +kernel
theorem dX3_putVisit_27 : decode cX3_putVisit 27 = .ok (.iconst 0, 1) := by decide +kernel
theorem dX3_putVisit_28 : decode cX3_putVisit 28 = .ok (.iadd, 1) := by decide +kernel
theorem dX3_putVisit_29 : decode cX3_putVisit 29 = .ok (.iload_n 1, 1) := by decide +kernel
theorem dX3_putVisit_30 : decode cX3_putVisit 30 = .ok (.iastore, 1) := by decide +kernel
theorem dX3_putVisit_31 : decode cX3_putVisit 31 = .ok (.aload_n 0, 1) := by decide +kernel
theorem dX3_putVisit_32 : decode cX3_putVisit 32 = .ok (.getfield 23, 3) := by decide +kernel
theorem dX3_putVisit_35 : decode cX3_putVisit 35 = .ok (.iload 7, 2) := by decide +kernel
theorem dX3_putVisit_37 : decode cX3_putVisit 37 = .ok (.iconst 1, 1) := by decide +kernel
theorem dX3_putVisit_38 : decode cX3_putVisit 38 = .ok (.iadd, 1) := by decide +kernel
theorem dX3_putVisit_39 : decode cX3_putVisit 39 = .ok (.iload_n 2, 1) := by decide +kernel
theorem dX3_putVisit_40 : decode cX3_putVisit 40 = .ok (.iastore, 1) := by decide +kernel
theorem dX3_putVisit_41 : decode cX3_putVisit 41 = .ok (.aload_n 0, 1) := by decide +kernel
theorem dX3_putVisit_42 : decode cX3_putVisit 42 = .ok (.getfield 23, 3) := by decide +kernel
theorem dX3_putVisit_45 : decode cX3_putVisit 45 = .ok (.iload 7, 2) := by decide +kernel
theorem dX3_putVisit_47 : decode cX3_putVisit 47 = .ok (.iconst 2, 1) := by decide +kernel
theorem dX3_putVisit_48 : decode cX3_putVisit 48 = .ok (.iadd, 1) := by decide +kernel
theorem dX3_putVisit_49 : decode cX3_putVisit 49 = .ok (.iload_n 3, 1) := by decide +kernel
theorem dX3_putVisit_50 : decode cX3_putVisit 50 = .ok (.iastore, 1) := by decide +kernel
theorem dX3_putVisit_51 : decode cX3_putVisit 51 = .ok (.aload_n 0, 1) := by decide +kernel
theorem dX3_putVisit_52 : decode cX3_putVisit 52 = .ok (.getfield 23, 3) := by decide +kernel
theorem dX3_putVisit_55 : decode cX3_putVisit 55 = .ok (.iload 7, 2) := by decide +kernel
theorem dX3_putVisit_57 : decode cX3_putVisit 57 = .ok (.iconst 3, 1) := by decide +kernel
theorem dX3_putVisit_58 : decode cX3_putVisit 58 = .ok (.iadd, 1) := by decide +kernel
theorem dX3_putVisit_59 : decode cX3_putVisit 59 = .ok (.iload 4, 2) := by decide +kernel
theorem dX3_putVisit_61 : decode cX3_putVisit 61 = .ok (.iastore, 1) := by decide +kernel
theorem dX3_putVisit_62 : decode cX3_putVisit 62 = .ok (.aload_n 0, 1) := by decide +kernel
theorem dX3_putVisit_63 : decode cX3_putVisit 63 = .ok (.getfield 23, 3) := by decide +kernel
theorem dX3_putVisit_66 : decode cX3_putVisit 66 = .ok (.iload 7, 2) := by decide +kernel
theorem dX3_putVisit_68 : decode cX3_putVisit 68 = .ok (.iconst 4, 1) := by decide +kernel
theorem dX3_putVisit_69 : decode cX3_putVisit 69 = .ok (.iadd, 1) := by decide +kernel
theorem dX3_putVisit_70 : decode cX3_putVisit 70 = .ok (.iload 5, 2) := by decide +kernel
theorem dX3_putVisit_72 : decode cX3_putVisit 72 = .ok (.iastore, 1) := by decide +kernel
theorem dX3_putVisit_73 : decode cX3_putVisit 73 = .ok (.aload_n 0, 1) := by decide +kernel
theorem dX3_putVisit_74 : decode cX3_putVisit 74 = .ok (.getfield 23, 3) := by decide +kernel
theorem dX3_putVisit_77 : decode cX3_putVisit 77 = .ok (.iload 7, 2) := by decide +kernel
theorem dX3_putVisit_79 : decode cX3_putVisit 79 = .ok (.iconst 5, 1) := by decide +kernel
theorem dX3_putVisit_80 : decode cX3_putVisit 80 = .ok (.iadd, 1) := by decide +kernel
theorem dX3_putVisit_81 : decode cX3_putVisit 81 = .ok (.iload 6, 2) := by decide +kernel
theorem dX3_putVisit_83 : decode cX3_putVisit 83 = .ok (.iastore, 1) := by decide +kernel
theorem dX3_putVisit_84 : decode cX3_putVisit 84 = .ok (.aload_n 0, 1) := by decide +kernel
theorem dX3_putVisit_85 : decode cX3_putVisit 85 = .ok (.dup, 1) := by decide +kernel
theorem dX3_putVisit_86 : decode cX3_putVisit 86 = .ok (.getfield 38, 3) := by decide +kernel
theorem dX3_putVisit_89 : decode cX3_putVisit 89 = .ok (.iconst 1, 1) := by decide +kernel
theorem dX3_putVisit_90 : decode cX3_putVisit 90 = .ok (.iadd, 1) := by decide +kernel
theorem dX3_putVisit_91 : decode cX3_putVisit 91 = .ok (.putfield 38, 3) := by decide +kernel
theorem dX3_putVisit_94 : decode cX3_putVisit 94 = .ok (.aload_n 0, 1) := by decide +kernel
theorem dX3_putVisit_95 : decode cX3_putVisit 95 = .ok (.getfield 38, 3) := by decide +kernel
theorem dX3_putVisit_98 : decode cX3_putVisit 98 = .ok (.iconst 1, 1) := by decide +kernel
theorem dX3_putVisit_99 : decode cX3_putVisit 99 = .ok (.isub, 1) := by decide +kernel
theorem dX3_putVisit_100 : decode cX3_putVisit 100 = .ok (.ireturn, 1) := by decide +kernel
set_option maxRecDepth 20000 in
theorem ggX3_removeVisit_X3_hasVisit : GoodIn wsX3_removeVisit wsX3_hasVisit := goodIn_r _ [11, 1, 12, 13, 14, 15, 16, 17] (by decide +kernel) (by decide +kernel)
set_option maxRecDepth 20000 in
theorem gX3_removeVisit_X3_hasVisit : GoodIn wsX3_removeVisit (wsV RX3 62 RX3 yX3_hasVisit wsX3_hasVisit) := goodIn_app (goodIn_of _ (by decide +kernel)) ggX3_removeVisit_X3_hasVisit
theorem dX3_removeVisit_0 : decode cX3_removeVisit 0 = .ok (.aload_n 0, 1) := by decide +kernel
theorem dX3_removeVisit_1 : decode cX3_removeVisit 1 = .ok (.iload_n 1, 1) := by decide +kernel
theorem dX3_removeVisit_2 : decode cX3_removeVisit 2 = .ok (.invokevirtual 62, 3) := by decide +kernel
theorem dX3_removeVisit_5 : decode cX3_removeVisit 5 = .ok (.ifCond .ne 5, 3) := by decide +kernel
theorem dX3_removeVisit_8 : decode cX3_removeVisit 8 = .ok (.iconst (-1), 1) := by decide +kernel
theorem dX3_removeVisit_9 : decode cX3_removeVisit 9 = .ok (.ireturn, 1) := by decide +kernel
theorem dX3_removeVisit_10 : decode cX3_removeVisit 10 = .ok (.iload_n 1, 1) := by decide +kernel
theorem dX3_removeVisit_11 : decode cX3_removeVisit 11 = .ok (.bipush 6, 2) := by decide +kernel
theorem dX3_removeVisit_13 : decode cX3_removeVisit 13 = .ok (.imul, 1) := by decide +kernel
theorem dX3_removeVisit_14 : decode cX3_removeVisit 14 = .ok (.istore_n 2, 1) := by decide +kernel
theorem dX3_removeVisit_15 : decode cX3_removeVisit 15 = .ok (.aload_n 0, 1) := by decide +kernel
theorem dX3_removeVisit_16 : decode cX3_removeVisit 16 = .ok (.getfield 38, 3) := by decide +kernel
theorem dX3_removeVisit_19 : decode cX3_removeVisit 19 = .ok (.iconst 1, 1) := by decide +kernel
theorem dX3_removeVisit_20 : decode cX3_removeVisit 20 = .ok (.isub, 1) := by decide +kernel
theorem dX3_removeVisit_21 : decode cX3_removeVisit 21 = .ok (.iload_n 1, 1) := by decide +kernel
theorem dX3_removeVisit_22 : decode cX3_removeVisit 22 = .ok (.isub, 1) := by decide +kernel
theorem dX3_removeVisit_23 : decode cX3_removeVisit 23 = .ok (.bipush 6, 2) := by decide +kernel
theorem dX3_removeVisit_25 : decode cX3_removeVisit 25 = .ok (.imul, 1) := by decide +kernel
theorem dX3_removeVisit_26 : decode cX3_removeVisit 26 = .ok (.istore_n 3, 1) := by decide +kernel
theorem dX3_removeVisit_27 : decode cX3_removeVisit 27 = .ok (.aload_n 0, 1) := by decide +kernel
theorem dX3_removeVisit_28 : decode cX3_removeVisit 28 = .ok (.getfield 23, 3) := by decide +kernel
theorem dX3_removeVisit_31 : decode cX3_removeVisit 31 = .ok (.iload_n 2, 1) := by decide +kernel
theorem dX3_removeVisit_32 : decode cX3_removeVisit 32 = .ok (.bipush 6, 2) := by decide +kernel
theorem dX3_removeVisit_34 : decode cX3_removeVisit 34 = .ok (.iadd, 1) := by decide +kernel
theorem dX3_removeVisit_35 : decode cX3_removeVisit 35 = .ok (.aload_n 0, 1) := by decide +kernel
theorem dX3_removeVisit_36 : decode cX3_removeVisit 36 = .ok (.getfield 23, 3) := by decide +kernel
theorem dX3_removeVisit_39 : decode cX3_removeVisit 39 = .ok (.iload_n 2, 1) := by decide +kernel
theorem dX3_removeVisit_40 : decode cX3_removeVisit 40 = .ok (.iload_n 3, 1) := by decide +kernel
theorem dX3_removeVisit_41 : decode cX3_removeVisit 41 = .ok (.invokestatic 32, 3) := by decide +kernel
theorem dX3_removeVisit_44 : decode cX3_removeVisit 44 = .ok (.aload_n 0, 1) := by decide +kernel
theorem dX3_removeVisit_45 : decode cX3_removeVisit 45 = .ok (.dup, 1) := by decide +kernel
theorem dX3_removeVisit_46 : decode cX3_removeVisit 46 = .ok (.getfield 38, 3) := by decide +kernel
theorem dX3_removeVisit_49 : decode cX3_removeVisit 49 = .ok (.iconst 1, 1) := by decide +kernel
theorem dX3_removeVisit_50 : decode cX3_removeVisit 50 = .ok (.isub, 1) := by decide +kernel
theorem dX3_removeVisit_51 : decode cX3_removeVisit 51 = .ok (.putfield 38, 3) := by decide +kernel
theorem dX3_removeVisit_54 : decode cX3_removeVisit 54 = .ok (.aload_n 0, 1) := by decide +kernel
theorem dX3_removeVisit_55 : decode cX3_removeVisit 55 = .ok (.getfield 38, 3) := by decide +kernel
theorem dX3_removeVisit_58 : decode cX3_removeVisit 58 = .ok (.ireturn, 1) := by decide +kernel
set_option maxRecDepth 20000 in
theorem ggX3_addVan_X4_within : GoodIn wsX3_addVan wsX4_within := goodIn_r _ [5] (by decide +kernel) (by decide +kernel)
set_option maxRecDepth 20000 in
theorem gX3_addVan_X4_within_n45 : GoodIn wsX3_addVan (wsX4_within) := ggX3_addVan_X4_within
theorem dX3_addVan_0 : decode cX3_addVan 0 = .ok (.iload_n 1, 1) := by decide +kernel
theorem dX3_addVan_1 : decode cX3_addVan 1 = .ok (.iconst 0, 1) := by decide +kernel
theorem dX3_addVan_2 : decode cX3_addVan 2 = .ok (.bipush 99, 2) := by decide +kernel
theorem dX3_addVan_4 : decode cX3_addVan 4 = .ok (.invokestatic 45, 3) := by decide +kernel
theorem dX3_addVan_7 : decode cX3_addVan 7 = .ok (.ifCond .eq 13, 3) := by decide +kernel
theorem dX3_addVan_10 : decode cX3_addVan 10 = .ok (.iload_n 2, 1) := by decide +kernel
theorem dX3_addVan_11 : decode cX3_addVan 11 = .ok (.iconst 0, 1) := by decide +kernel
theorem dX3_addVan_12 : decode cX3_addVan 12 = .ok (.bipush 15, 2) := by decide +kernel
theorem dX3_addVan_14 : decode cX3_addVan 14 = .ok (.invokestatic 45, 3) := by decide +kernel
theorem dX3_addVan_17 : decode cX3_addVan 17 = .ok (.ifCond .ne 6, 3) := by decide +kernel
theorem dX3_addVan_20 : decode cX3_addVan 20 = .ok (.bipush (-2), 2) := by decide +kernel
theorem dX3_addVan_22 : decode cX3_addVan 22 = .ok (.ireturn, 1) := by decide +kernel
theorem dX3_addVan_23 : decode cX3_addVan 23 = .ok (.aload_n 0, 1) := by decide +kernel
theorem dX3_addVan_24 : decode cX3_addVan 24 = .ok (.getfield 42, 3) := by decide +kernel
theorem dX3_addVan_27 : decode cX3_addVan 27 = .ok (.iconst 4, 1) := by decide +kernel
theorem dX3_addVan_28 : decode cX3_addVan 28 = .ok (.if_icmp .lt 6, 3) := by decide +kernel
theorem dX3_addVan_31 : decode cX3_addVan 31 = .ok (.bipush (-4), 2) := by decide +kernel
theorem dX3_addVan_33 : decode cX3_addVan 33 = .ok (.ireturn, 1) := by decide +kernel
theorem dX3_addVan_34 : decode cX3_addVan 34 = .ok (.aload_n 0, 1) := by decide +kernel
theorem dX3_addVan_35 : decode cX3_addVan 35 = .ok (.getfield 26, 3) := by decide +kernel
theorem dX3_addVan_38 : decode cX3_addVan 38 = .ok (.aload_n 0, 1) := by decide +kernel
theorem dX3_addVan_39 : decode cX3_addVan 39 = .ok (.getfield 42, 3) := by decide +kernel
theorem dX3_addVan_42 : decode cX3_addVan 42 = .ok (.iconst 2, 1) := by decide +kernel
theorem dX3_addVan_43 : decode cX3_addVan 43 = .ok (.imul, 1) := by decide +kernel
theorem dX3_addVan_44 : decode cX3_addVan 44 = .ok (.iconst 0, 1) := by decide +kernel
theorem dX3_addVan_45 : decode cX3_addVan 45 = .ok (.iadd, 1) := by decide +kernel
theorem dX3_addVan_46 : decode cX3_addVan 46 = .ok (.iload_n 1, 1) := by decide +kernel
theorem dX3_addVan_47 : decode cX3_addVan 47 = .ok (.iastore, 1) := by decide +kernel
theorem dX3_addVan_48 : decode cX3_addVan 48 = .ok (.aload_n 0, 1) := by decide +kernel
theorem dX3_addVan_49 : decode cX3_addVan 49 = .ok (.getfield 26, 3) := by decide +kernel
theorem dX3_addVan_52 : decode cX3_addVan 52 = .ok (.aload_n 0, 1) := by decide +kernel
theorem dX3_addVan_53 : decode cX3_addVan 53 = .ok (.getfield 42, 3) := by decide +kernel
theorem dX3_addVan_56 : decode cX3_addVan 56 = .ok (.iconst 2, 1) := by decide +kernel
theorem dX3_addVan_57 : decode cX3_addVan 57 = .ok (.imul, 1) := by decide +kernel
theorem dX3_addVan_58 : decode cX3_addVan 58 = .ok (.iconst 1, 1) := by decide +kernel
theorem dX3_addVan_59 : decode cX3_addVan 59 = .ok (.iadd, 1) := by decide +kernel
theorem dX3_addVan_60 : decode cX3_addVan 60 = .ok (.iload_n 2, 1) := by decide +kernel
theorem dX3_addVan_61 : decode cX3_addVan 61 = .ok (.iastore, 1) := by decide +kernel
theorem dX3_addVan_62 : decode cX3_addVan 62 = .ok (.aload_n 0, 1) := by decide +kernel
theorem dX3_addVan_63 : decode cX3_addVan 63 = .ok (.dup, 1) := by decide +kernel
theorem dX3_addVan_64 : decode cX3_addVan 64 = .ok (.getfield 42, 3) := by decide +kernel
theorem dX3_addVan_67 : decode cX3_addVan 67 = .ok (.iconst 1, 1) := by decide +kernel
theorem dX3_addVan_68 : decode cX3_addVan 68 = .ok (.iadd, 1) := by decide +kernel
theorem dX3_addVan_69 : decode cX3_addVan 69 = .ok (.putfield 42, 3) := by decide +kernel
theorem dX3_addVan_72 : decode cX3_addVan 72 = .ok (.aload_n 0, 1) := by decide +kernel
theorem dX3_addVan_73 : decode cX3_addVan 73 = .ok (.getfield 42, 3) := by decide +kernel
theorem dX3_addVan_76 : decode cX3_addVan 76 = .ok (.iconst 1, 1) := by decide +kernel
theorem dX3_addVan_77 : decode cX3_addVan 77 = .ok (.isub, 1) := by decide +kernel
theorem dX3_addVan_78 : decode cX3_addVan 78 = .ok (.ireturn, 1) := by decide +kernel
set_option maxRecDepth 20000 in
theorem ggX3_changeStock_X3_hasVan : GoodIn wsX3_changeStock wsX3_hasVan := goodIn_r _ [6, 7, 14, 15, 16, 17, 18, 19] (by decide +kernel) (by decide +kernel)
set_option maxRecDepth 20000 in
theorem gX3_changeStock_X3_hasVan : GoodIn wsX3_changeStock (wsV RX3 66 RX3 yX3_hasVan wsX3_hasVan) := goodIn_app (goodIn_of _ (by decide +kernel)) ggX3_changeStock_X3_hasVan
set_option maxRecDepth 20000 in
theorem ggX3_changeStock_X4_isPart : GoodIn wsX3_changeStock wsX4_isPart := goodIn_r _ [10, 11, 12, 9, 13] (by decide +kernel) (by decide +kernel)
set_option maxRecDepth 20000 in
theorem gX3_changeStock_X4_isPart_n69 : GoodIn wsX3_changeStock (wsX4_isPart) := ggX3_changeStock_X4_isPart
set_option maxRecDepth 20000 in
theorem ggX3_changeStock_X4_within : GoodIn wsX3_changeStock wsX4_within := goodIn_r _ [13] (by decide +kernel) (by decide +kernel)
set_option maxRecDepth 20000 in
theorem gX3_changeStock_X4_within_n45 : GoodIn wsX3_changeStock (wsX4_within) := ggX3_changeStock_X4_within
theorem dX3_changeStock_0 : decode cX3_changeStock 0 = .ok (.aload_n 0, 1) := by decide +kernel
theorem dX3_changeStock_1 : decode cX3_changeStock 1 = .ok (.iload_n 1, 1) := by decide +kernel
theorem dX3_changeStock_2 : decode cX3_changeStock 2 = .ok (.invokevirtual 66, 3) := by decide +kernel
theorem dX3_changeStock_5 : decode cX3_changeStock 5 = .ok (.ifCond .eq 10, 3) := by decide +kernel
theorem dX3_changeStock_8 : decode cX3_changeStock 8 = .ok (.iload_n 2, 1) := by decide +kernel
theorem dX3_changeStock_9 : decode cX3_changeStock 9 = .ok (.invokestatic 69, 3) := by decide +kernel
theorem dX3_changeStock_12 : decode cX3_changeStock 12 = .ok (.ifCond .ne 5, 3) := by decide +kernel
theorem dX3_changeStock_15 : decode cX3_changeStock 15 = .ok (.iconst (-1), 1) := by decide +kernel
theorem dX3_changeStock_16 : decode cX3_changeStock 16 = .ok (.ireturn, 1) := by decide +kernel
theorem dX3_changeStock_17 : decode cX3_changeStock 17 = .ok (.iload_n 3, 1) := by decide +kernel
theorem dX3_changeStock_18 : decode cX3_changeStock 18 = .ok (.iconst 0, 1) := by decide +kernel
theorem dX3_changeStock_19 : decode cX3_changeStock 19 = .ok (.bipush 99, 2) := by decide +kernel
theorem dX3_changeStock_21 : decode cX3_changeStock 21 = .ok (.invokestatic 45, 3) := by decide +kernel
theorem dX3_changeStock_24 : decode cX3_changeStock 24 = .ok (.ifCond .ne 6, 3) := by decide +kernel
theorem dX3_changeStock_27 : decode cX3_changeStock 27 = .ok (.bipush (-2), 2) := by decide +kernel
theorem dX3_changeStock_29 : decode cX3_changeStock 29 = .ok (.ireturn, 1) := by decide +kernel
theorem dX3_changeStock_30 : decode cX3_changeStock 30 = .ok (.aload_n 0, 1) := by decide +kernel
theorem dX3_changeStock_31 : decode cX3_changeStock 31 = .ok (.getfield 29, 3) := by decide +kernel
theorem dX3_changeStock_34 : decode cX3_changeStock 34 = .ok (.iload_n 1, 1) := by decide +kernel
theorem dX3_changeStock_35 : decode cX3_changeStock 35 = .ok (.iconst 5, 1) := by decide +kernel
theorem dX3_changeStock_36 : decode cX3_changeStock 36 = .ok (.imul, 1) := by decide +kernel
theorem dX3_changeStock_37 : decode cX3_changeStock 37 = .ok (.iload_n 2, 1) := by decide +kernel
theorem dX3_changeStock_38 : decode cX3_changeStock 38 = .ok (.iadd, 1) := by decide +kernel
theorem dX3_changeStock_39 : decode cX3_changeStock 39 = .ok (.iaload, 1) := by decide +kernel
theorem dX3_changeStock_40 : decode cX3_changeStock 40 = .ok (.istore 4, 2) := by decide +kernel
theorem dX3_changeStock_42 : decode cX3_changeStock 42 = .ok (.aload_n 0, 1) := by decide +kernel
theorem dX3_changeStock_43 : decode cX3_changeStock 43 = .ok (.getfield 29, 3) := by decide +kernel
theorem dX3_changeStock_46 : decode cX3_changeStock 46 = .ok (.iload_n 1, 1) := by decide +kernel
theorem dX3_changeStock_47 : decode cX3_changeStock 47 = .ok (.iconst 5, 1) := by decide +kernel
theorem dX3_changeStock_48 : decode cX3_changeStock 48 = .ok (.imul, 1) := by decide +kernel
theorem dX3_changeStock_49 : decode cX3_changeStock 49 = .ok (.iload_n 2, 1) := by decide +kernel
theorem dX3_changeStock_50 : decode cX3_changeStock 50 = .ok (.iadd, 1) := by decide +kernel
theorem dX3_changeStock_51 : decode cX3_changeStock 51 = .ok (.iload_n 3, 1) := by decide +kernel
theorem dX3_changeStock_52 : decode cX3_changeStock 52 = .ok (.iastore, 1) := by decide +kernel
theorem dX3_changeStock_53 : decode cX3_changeStock 53 = .ok (.iload 4, 2) := by decide +kernel
theorem dX3_changeStock_55 : decode cX3_changeStock 55 = .ok (.ireturn, 1) := by decide +kernel
