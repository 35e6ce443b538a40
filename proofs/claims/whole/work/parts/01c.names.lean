theorem dX4_init_19 : decode cX4_init 19 = .ok (.dup, 1) := by decide +kernel
theorem dX4_init_20 : decode cX4_init 20 = .ok (.invokespecial 11, 3) := by decide +kernel
theorem dX4_init_23 : decode cX4_init 23 = .ok (.putfield 18, 3) := by decide +kernel
theorem dX4_init_26 : decode cX4_init 26 = .ok (.aload_n 0, 1) := by decide +kernel
theorem dX4_init_27 : decode cX4_init 27 = .ok (.bipush 8, 2) := by decide +kernel
theorem dX4_init_29 : decode cX4_init 29 = .ok (.anewarray 21, 3) := by decide +kernel
theorem dX4_init_32 : decode cX4_init 32 = .ok (.putfield 23, 3) := by decide +kernel
theorem dX4_init_35 : decode cX4_init 35 = .ok (.aload_n 0, 1) := by decide +kernel
theorem dX4_init_36 : decode cX4_init 36 = .ok (.iconst 0, 1) := by decide +kernel
theorem dX4_init_37 : decode cX4_init 37 = .ok (.putfield 27, 3) := by decide +kernel
theorem dX4_init_40 : decode cX4_init 40 = .ok (.aload_n 0, 1) := by decide +kernel
theorem dX4_init_41 : decode cX4_init 41 = .ok (.iconst 4, 1) := by decide +kernel
theorem dX4_init_42 : decode cX4_init 42 = .ok (.anewarray 31, 3) := by decide +kernel
theorem dX4_init_45 : decode cX4_init 45 = .ok (.putfield 33, 3) := by decide +kernel
theorem dX4_init_48 : decode cX4_init 48 = .ok (.aload_n 0, 1) := by decide +kernel
theorem dX4_init_49 : decode cX4_init 49 = .ok (.iconst 0, 1) := by decide +kernel
theorem dX4_init_50 : decode cX4_init 50 = .ok (.putfield 37, 3) := by decide +kernel
theorem dX4_init_53 : decode cX4_init 53 = .ok (.aload_n 0, 1) := by decide +kernel
theorem dX4_init_54 : decode cX4_init 54 = .ok (.iconst 0, 1) := by decide +kernel
theorem dX4_init_55 : decode cX4_init 55 = .ok (.putfield 40, 3) := by decide +kernel
theorem dX4_init_58 : decode cX4_init 58 = .ok (.iconst 0, 1) := by decide +kernel
theorem dX4_init_59 : decode cX4_init 59 = .ok (.istore_n 1, 1) := by decide +kernel
theorem dX4_init_60 : decode cX4_init 60 = .ok (.iload_n 1, 1) := by decide +kernel
theorem dX4_init_61 : decode cX4_init 61 = .ok (.bipush 8, 2) := by decide +kernel
theorem dX4_init_63 : decode cX4_init 63 = .ok (.if_icmp .ge 22, 3) := by decide +kernel
theorem dX4_init_66 : decode cX4_init 66 = .ok (.aload_n 0, 1) := by decide +kernel
theorem dX4_init_67 : decode cX4_init 67 = .ok (.getfield 23, 3) := by decide +kernel
theorem dX4_init_70 : decode cX4_init 70 = .ok (.iload_n 1, 1) := by decide +kernel
theorem dX4_init_71 : decode cX4_init 71 = .ok (.new 21, 3) := by decide +kernel
theorem dX4_init_74 : decode cX4_init 74 = .ok (.dup, 1) := by decide +kernel
theorem dX4_init_75 : decode cX4_init 75 = .ok (.invokespecial 43, 3) := by decide +kernel
theorem dX4_init_78 : decode cX4_init 78 = .ok (.aastore, 1) := by decide +kernel
theorem dX4_init_79 : decode cX4_init 79 = .ok (.iinc 1 1, 3) := by decide +kernel
theorem dX4_init_82 : decode cX4_init 82 = .ok (.goto (-22), 3) := by decide +kernel
theorem dX4_init_85 : decode cX4_init 85 = .ok (.iconst 0, 1) := by decide +kernel
theorem dX4_init_86 : decode cX4_init 86 = .ok (.istore_n 1, 1) := by decide +kernel
theorem dX4_init_87 : decode cX4_init 87 = .ok (.iload_n 1, 1) := by decide +kernel
theorem dX4_init_88 : decode cX4_init 88 = .ok (.iconst 4, 1) := by decide +kernel
theorem dX4_init_89 : decode cX4_init 89 = .ok (.if_icmp .ge 22, 3) := by decide +kernel
theorem dX4_init_92 : decode cX4_init 92 = .ok (.aload_n 0, 1) := by decide +kernel
theorem dX4_init_93 : decode cX4_init 93 = .ok (.getfield 33, 3) := by decide +kernel
theorem dX4_init_96 : decode cX4_init 96 = .ok (.iload_n 1, 1) := by decide +kernel
theorem dX4_init_97 : decode cX4_init 97 = .ok (.new 31, 3) := by decide +kernel
theorem dX4_init_100 : decode cX4_init 100 = .ok (.dup, 1) := by decide +kernel
theorem dX4_init_101 : decode cX4_init 101 = .ok (.invokespecial 44, 3) := by decide +kernel
theorem dX4_init_104 : decode cX4_init 104 = .ok (.aastore, 1) := by decide +kernel
theorem dX4_init_105 : decode cX4_init 105 = .ok (.iinc 1 1, 3) := by decide +kernel
theorem dX4_init_108 : decode cX4_init 108 = .ok (.goto (-21), 3) := by decide +kernel
theorem dX4_init_111 : decode cX4_init 111 = .ok (.return_, 1) := by decide +kernel
set_option maxRecDepth 20000 in
theorem ggX4_town_X4_isSheet : GoodIn wsX4_town wsX4_isSheet := goodIn_r _ [11] (by decide +kernel) (by decide +kernel)
set_option maxRecDepth 20000 in
theorem gX4_town_X4_isSheet : GoodIn wsX4_town (va_wsS RX4 45 yX4_isSheet wsX4_isSheet) := goodIn_app (goodIn_of _ (by decide +kernel)) ggX4_town_X4_isSheet
set_option maxRecDepth 20000 in
theorem ggX4_town_X4_refused : GoodIn wsX4_town wsX4_refused := goodIn_r _ [15, 2, 79, 80, 81, 82, 83, 84, 85] (by decide +kernel) (by decide +kernel)
set_option maxRecDepth 20000 in
theorem gX4_town_X4_refused : GoodIn wsX4_town (wsV RX4 49 RX4 yX4_refused wsX4_refused) := goodIn_app (goodIn_of _ (by decide +kernel)) ggX4_town_X4_refused
set_option maxRecDepth 20000 in
theorem ggX4_town_X4_isLane : GoodIn wsX4_town wsX4_isLane := goodIn_r _ [18] (by decide +kernel) (by decide +kernel)
set_option maxRecDepth 20000 in
theorem gX4_town_X4_isLane : GoodIn wsX4_town (va_wsS RX4 53 yX4_isLane wsX4_isLane) := goodIn_app (goodIn_of _ (by decide +kernel)) ggX4_town_X4_isLane
set_option maxRecDepth 20000 in
theorem ggX4_town_X1_faultOfTaking : GoodIn wsX4_town wsX1_faultOfTaking := goodIn_r _ [23, 24, 25, 26, 27, 22, 28, 29, 30, 31, 32, 33, 96, 97, 98] (by decide +kernel) (by decide +kernel)
set_option maxRecDepth 20000 in
theorem gX4_town_X1_faultOfTaking : GoodIn wsX4_town (wsV RX4 56 RX1 yX1_faultOfTaking wsX1_faultOfTaking) := goodIn_app (goodIn_of _ (by decide +kernel)) ggX4_town_X1_faultOfTaking
set_option maxRecDepth 20000 in
theorem ggX4_town_X4_faulted : GoodIn wsX4_town wsX4_faulted := goodIn_r _ [37, 2, 79, 80, 81, 82, 83, 84, 85] (by decide +kernel) (by decide +kernel)
set_option maxRecDepth 20000 in
theorem gX4_town_X4_faulted : GoodIn wsX4_town (wsV RX4 60 RX4 yX4_faulted wsX4_faulted) := goodIn_app (goodIn_of _ (by decide +kernel)) ggX4_town_X4_faulted
set_option maxRecDepth 20000 in
theorem ggX4_town_X3_init : GoodIn wsX4_town wsX3_init := goodIn_r _ [40, 41, 42, 43, 44, 45, 46, 47, 48, 86, 87, 88, 89, 90, 96, 97, 98] (by decide +kernel) (by decide +kernel)
set_option maxRecDepth 20000 in
theorem gX4_town_X3_init : GoodIn wsX4_town (wsX3_init) := ggX4_town_X3_init
set_option maxRecDepth 20000 in
theorem ggX4_town_X3_firstFault : GoodIn wsX4_town wsX3_firstFault := goodIn_r _ [52, 46, 48, 53, 54, 55, 5, 56, 47, 57, 58, 59, 60, 44, 45, 61, 62, 63, 64, 65, 66, 67, 68, 86, 87, 88, 89, 90, 96, 97, 98] (by decide +kernel) (by decide +kernel)
set_option maxRecDepth 20000 in
theorem gX4_town_X3_firstFault : GoodIn wsX4_town (wsV RX4 68 RX3 yX3_firstFault wsX3_firstFault) := goodIn_app (goodIn_of _ (by decide +kernel)) ggX4_town_X3_firstFault
set_option maxRecDepth 20000 in
theorem ggX4_town_X3_settle : GoodIn wsX4_town wsX3_settle := goodIn_r _ [72, 47, 46, 48, 57, 58, 59, 5, 60, 44, 45, 73, 74, 75, 76, 77, 78, 86, 87, 88, 89, 90, 91, 92, 93, 94, 95, 96, 97, 98] (by decide +kernel) (by decide +kernel)
set_option maxRecDepth 20000 in
theorem gX4_town_X3_settle : GoodIn wsX4_town (wsV RX4 72 RX3 yX3_settle wsX3_settle) := goodIn_app (goodIn_of _ (by decide +kernel)) ggX4_town_X3_settle
theorem dX4_town_0 : decode cX4_town 0 = .ok (.iload_n 1, 1) := by decide +kernel
theorem dX4_town_1 : decode cX4_town 1 = .ok (.invokestatic 45, 3) := by decide +kernel
theorem dX4_town_4 : decode cX4_town 4 = .ok (.ifCond .ne 9, 3) := by decide +kernel
theorem dX4_town_7 : decode cX4_town 7 = .ok (.aload_n 0, 1) := by decide +kernel
theorem dX4_town_8 : decode cX4_town 8 = .ok (.iconst (-1), 1) := by decide +kernel
theorem dX4_town_9 : decode cX4_town 9 = .ok (.invokevirtual 49, 3) := by decide +kernel
theorem dX4_town_12 : decode cX4_town 12 = .ok (.ireturn, 1) := by decide +kernel
theorem dX4_town_13 : decode cX4_town 13 = .ok (.iload_n 2, 1) := by decide +kernel
theorem dX4_town_14 : decode cX4_town 14 = .ok (.invokestatic 53, 3) := by decide +kernel
theorem dX4_town_17 : decode cX4_town 17 = .ok (.ifCond .ne 10, 3) := by decide +kernel
theorem dX4_town_20 : decode cX4_town 20 = .ok (.aload_n 0, 1) := by decide +kernel
theorem dX4_town_21 : decode cX4_town 21 = .ok (.bipush (-2), 2) := by decide +kernel
theorem dX4_town_23 : decode cX4_town 23 = .ok (.invokevirtual 49, 3) := by decide +kernel
theorem dX4_town_26 : decode cX4_town 26 = .ok (.ireturn, 1) := by decide +kernel
theorem dX4_town_27 : decode cX4_town 27 = .ok (.aload_n 0, 1) := by decide +kernel
theorem dX4_town_28 : decode cX4_town 28 = .ok (.getfield 33, 3) := by decide +kernel
theorem dX4_town_31 : decode cX4_town 31 = .ok (.iload_n 1, 1) := by decide +kernel
theorem dX4_town_32 : decode cX4_town 32 = .ok (.aaload, 1) := by decide +kernel
theorem dX4_town_33 : decode cX4_town 33 = .ok (.iload_n 2, 1) := by decide +kernel
theorem dX4_town_34 : decode cX4_town 34 = .ok (.iload_n 3, 1) := by decide +kernel
theorem dX4_town_35 : decode cX4_town 35 = .ok (.iload 4, 2) := by decide +kernel
theorem dX4_town_37 : decode cX4_town 37 = .ok (.invokevirtual 56, 3) := by decide +kernel
theorem dX4_town_40 : decode cX4_town 40 = .ok (.istore 5, 2) := by decide +kernel
theorem dX4_town_42 : decode cX4_town 42 = .ok (.iload 5, 2) := by decide +kernel
theorem dX4_town_44 : decode cX4_town 44 = .ok (.ifCond .eq 10, 3) := by decide +kernel
theorem dX4_town_47 : decode cX4_town 47 = .ok (.aload_n 0, 1) := by decide +kernel
theorem dX4_town_48 : decode cX4_town 48 = .ok (.iload 5, 2) := by decide +kernel
theorem dX4_town_50 : decode cX4_town 50 = .ok (.invokevirtual 60, 3) := by decide +kernel
theorem dX4_town_53 : decode cX4_town 53 = .ok (.ireturn, 1) := by decide +kernel
theorem dX4_town_54 : decode cX4_town 54 = .ok (.aload_n 0, 1) := by decide +kernel
theorem dX4_town_55 : decode cX4_town 55 = .ok (.iconst 0, 1) := by decide +kernel
theorem dX4_town_56 : decode cX4_town 56 = .ok (.putfield 40, 3) := by decide +kernel
theorem dX4_town_59 : decode cX4_town 59 = .ok (.new 63, 3) := by decide +kernel
theorem dX4_town_62 : decode cX4_town 62 = .ok (.dup, 1) := by decide +kernel
theorem dX4_town_63 : decode cX4_town 63 = .ok (.aload_n 0, 1) := by decide +kernel
theorem dX4_town_64 : decode cX4_town 64 = .ok (.getfield 33, 3) := by decide +kernel
theorem dX4_town_67 : decode cX4_town 67 = .ok (.iload_n 1, 1) := by decide +kernel
theorem dX4_town_68 : decode cX4_town 68 = .ok (.aaload, 1) := by decide +kernel
theorem dX4_town_69 : decode cX4_town 69 = .ok (.iload_n 3, 1) := by decide +kernel
theorem dX4_town_70 : decode cX4_town 70 = .ok (.iload 4, 2) := by decide +kernel
theorem dX4_town_72 : decode cX4_town 72 = .ok (.invokespecial 65, 3) := by decide +kernel
theorem dX4_town_75 : decode cX4_town 75 = .ok (.astore 6, 2) := by decide +kernel
theorem dX4_town_77 : decode cX4_town 77 = .ok (.aload 6, 2) := by decide +kernel
theorem dX4_town_79 : decode cX4_town 79 = .ok (.invokevirtual 68, 3) := by decide +kernel
theorem dX4_town_82 : decode cX4_town 82 = .ok (.istore 7, 2) := by decide +kernel
theorem dX4_town_84 : decode cX4_town 84 = .ok (.iload 7, 2) := by decide +kernel
theorem dX4_town_86 : decode cX4_town 86 = .ok (.bipush (-9), 2) := by decide +kernel
theorem dX4_town_88 : decode cX4_town 88 = .ok (.if_icmp .eq 9, 3) := by decide +kernel
theorem dX4_town_91 : decode cX4_town 91 = .ok (.bipush (-100), 2) := by decide +kernel
theorem dX4_town_93 : decode cX4_town 93 = .ok (.iload 7, 2) := by decide +kernel
theorem dX4_town_95 : decode cX4_town 95 = .ok (.isub, 1) := by decide +kernel
theorem dX4_town_96 : decode cX4_town 96 = .ok (.ireturn, 1) := by decide +kernel
theorem dX4_town_97 : decode cX4_town 97 = .ok (.aload 6, 2) := by decide +kernel
theorem dX4_town_99 : decode cX4_town 99 = .ok (.aload_n 0, 1) := by decide +kernel
theorem dX4_town_100 : decode cX4_town 100 = .ok (.getfield 12, 3) := by decide +kernel
theorem dX4_town_103 : decode cX4_town 103 = .ok (.invokevirtual 72, 3) := by decide +kernel
theorem dX4_town_106 : decode cX4_town 106 = .ok (.aload_n 0, 1) := by decide +kernel
theorem dX4_town_107 : decode cX4_town 107 = .ok (.iconst 0, 1) := by decide +kernel
theorem dX4_town_108 : decode cX4_town 108 = .ok (.putfield 27, 3) := by decide +kernel
theorem dX4_town_111 : decode cX4_town 111 = .ok (.aload_n 0, 1) := by decide +kernel
theorem dX4_town_112 : decode cX4_town 112 = .ok (.getfield 12, 3) := by decide +kernel
theorem dX4_town_115 : decode cX4_town 115 = .ok (.getfield 76, 3) := by decide +kernel
theorem dX4_town_118 : decode cX4_town 118 = .ok (.ireturn, 1) := by decide +kernel
set_option maxRecDepth 20000 in
theorem ggX4_ofBoy_X2_hasBoy : GoodIn wsX4_ofBoy wsX2_hasBoy := goodIn_r _ [6, 7, 19, 20, 21, 22, 23] (by decide +kernel) (by decide +kernel)
set_option maxRecDepth 20000 in
theorem gX4_ofBoy_X2_hasBoy : GoodIn wsX4_ofBoy (wsV RX4 79 RX2 yX2_hasBoy wsX2_hasBoy) := goodIn_app (goodIn_of _ (by decide +kernel)) ggX4_ofBoy_X2_hasBoy
set_option maxRecDepth 20000 in
theorem ggX4_ofBoy_X4_learning : GoodIn wsX4_ofBoy wsX4_learning := goodIn_r _ [11] (by decide +kernel) (by decide +kernel)
set_option maxRecDepth 20000 in
theorem gX4_ofBoy_X4_learning : GoodIn wsX4_ofBoy (va_wsS RX4 89 yX4_learning wsX4_learning) := goodIn_app (goodIn_of _ (by decide +kernel)) ggX4_ofBoy_X4_learning
theorem dX4_ofBoy_0 : decode cX4_ofBoy 0 = .ok (.aload_n 0, 1) := by decide +kernel
theorem dX4_ofBoy_1 : decode cX4_ofBoy 1 = .ok (.getfield 12, 3) := by decide +kernel
theorem dX4_ofBoy_4 : decode cX4_ofBoy 4 = .ok (.iload_n 1, 1) := by decide +kernel
theorem dX4_ofBoy_5 : decode cX4_ofBoy 5 = .ok (.invokevirtual 79, 3) := by decide +kernel
theorem dX4_ofBoy_8 : decode cX4_ofBoy 8 = .ok (.ifCond .ne 5, 3) := by decide +kernel
theorem dX4_ofBoy_11 : decode cX4_ofBoy 11 = .ok (.iconst (-1), 1) := by decide +kernel
theorem dX4_ofBoy_12 : decode cX4_ofBoy 12 = .ok (.ireturn, 1) := by decide +kernel
theorem dX4_ofBoy_13 : decode cX4_ofBoy 13 = .ok (.iload_n 2, 1) := by decide +kernel
theorem dX4_ofBoy_14 : decode cX4_ofBoy 14 = .ok (.tableswitch 59 0 2 #[26, 36, 46], 26) := by decide +kernel
theorem dX4_ofBoy_40 : decode cX4_ofBoy 40 = .ok (.aload_n 0, 1) := by decide +kernel
theorem dX4_ofBoy_41 : decode cX4_ofBoy 41 = .ok (.getfield 12, 3) := by decide +kernel
theorem dX4_ofBoy_44 : decode cX4_ofBoy 44 = .ok (.getfield 82, 3) := by decide +kernel
theorem dX4_ofBoy_47 : decode cX4_ofBoy 47 = .ok (.iload_n 1, 1) := by decide +kernel
theorem dX4_ofBoy_48 : decode cX4_ofBoy 48 = .ok (.iaload, 1) := by decide +kernel
theorem dX4_ofBoy_49 : decode cX4_ofBoy 49 = .ok (.ireturn, 1) := by decide +kernel
theorem dX4_ofBoy_50 : decode cX4_ofBoy 50 = .ok (.aload_n 0, 1) := by decide +kernel
theorem dX4_ofBoy_51 : decode cX4_ofBoy 51 = .ok (.getfield 12, 3) := by decide +kernel
theorem dX4_ofBoy_54 : decode cX4_ofBoy 54 = .ok (.getfield 86, 3) := by decide +kernel
theorem dX4_ofBoy_57 : decode cX4_ofBoy 57 = .ok (.iload_n 1, 1) := by decide +kernel
theorem dX4_ofBoy_58 : decode cX4_ofBoy 58 = .ok (.iaload, 1) := by decide +kernel
theorem dX4_ofBoy_59 : decode cX4_ofBoy 59 = .ok (.ireturn, 1) := by decide +kernel
theorem dX4_ofBoy_60 : decode cX4_ofBoy 60 = .ok (.aload_n 0, 1) := by decide +kernel
theorem dX4_ofBoy_61 : decode cX4_ofBoy 61 = .ok (.getfield 12, 3) := by decide +kernel
theorem dX4_ofBoy_64 : decode cX4_ofBoy 64 = .ok (.getfield 82, 3) := by decide +kernel
theorem dX4_ofBoy_67 : decode cX4_ofBoy 67 = .ok (.iload_n 1, 1) := by decide +kernel
theorem dX4_ofBoy_68 : decode cX4_ofBoy 68 = .ok (.iaload, 1) := by decide +kernel
theorem dX4_ofBoy_69 : decode cX4_ofBoy 69 = .ok (.invokestatic 89, 3) := by decide +kernel
theorem dX4_ofBoy_72 : decode cX4_ofBoy 72 = .ok (.ireturn, 1) := by decide +kernel
theorem dX4_ofBoy_73 : decode cX4_ofBoy 73 = .ok (.bipush (-2), 2) := by decide +kernel
theorem dX4_ofBoy_75 : decode cX4_ofBoy 75 = .ok (.ireturn, 1) := by decide +kernel
set_option maxRecDepth 20000 in
theorem ggX4_owes_X2_hasMaster : GoodIn wsX4_owes wsX2_hasMaster := goodIn_r _ [6, 7, 20, 21, 22, 23, 24] (by decide +kernel) (by decide +kernel)
set_option maxRecDepth 20000 in
theorem gX4_owes_X2_hasMaster : GoodIn wsX4_owes (wsV RX4 92 RX2 yX2_hasMaster wsX2_hasMaster) := goodIn_app (goodIn_of _ (by decide +kernel)) ggX4_owes_X2_hasMaster
set_option maxRecDepth 20000 in
theorem ggX4_owes_X2_debt : GoodIn wsX4_owes wsX2_debt := goodIn_r _ [11, 12, 20, 21, 22, 23, 24] (by decide +kernel) (by decide +kernel)
set_option maxRecDepth 20000 in
theorem gX4_owes_X2_debt : GoodIn wsX4_owes (wsV RX4 95 RX2 yX2_debt wsX2_debt) := goodIn_app (goodIn_of _ (by decide +kernel)) ggX4_owes_X2_debt
theorem dX4_owes_0 : decode cX4_owes 0 = .ok (.aload_n 0, 1) := by decide +kernel
theorem dX4_owes_1 : decode cX4_owes 1 = .ok (.getfield 12, 3) := by decide +kernel
theorem dX4_owes_4 : decode cX4_owes 4 = .ok (.iload_n 1, 1) := by decide +kernel
theorem dX4_owes_5 : decode cX4_owes 5 = .ok (.invokevirtual 92, 3) := by decide +kernel
theorem dX4_owes_8 : decode cX4_owes 8 = .ok (.ifCond .eq 14, 3) := by decide +kernel
theorem dX4_owes_11 : decode cX4_owes 11 = .ok (.aload_n 0, 1) := by decide +kernel
theorem dX4_owes_12 : decode cX4_owes 12 = .ok (.getfield 12, 3) := by decide +kernel
theorem dX4_owes_15 : decode cX4_owes 15 = .ok (.iload_n 2, 1) := by decide +kernel
theorem dX4_owes_16 : decode cX4_owes 16 = .ok (.invokevirtual 92, 3) := by decide +kernel
theorem dX4_owes_19 : decode cX4_owes 19 = .ok (.ifCond .ne 5, 3) := by decide +kernel
theorem dX4_owes_22 : decode cX4_owes 22 = .ok (.iconst (-1), 1) := by decide +kernel
theorem dX4_owes_23 : decode cX4_owes 23 = .ok (.ireturn, 1) := by decide +kernel
theorem dX4_owes_24 : decode cX4_owes 24 = .ok (.aload_n 0, 1) := by decide +kernel
theorem dX4_owes_25 : decode cX4_owes 25 = .ok (.getfield 12, 3) := by decide +kernel
theorem dX4_owes_28 : decode cX4_owes 28 = .ok (.iload_n 1, 1) := by decide +kernel
theorem dX4_owes_29 : decode cX4_owes 29 = .ok (.iload_n 2, 1) := by decide +kernel
theorem dX4_owes_30 : decode cX4_owes 30 = .ok (.invokevirtual 95, 3) := by decide +kernel
theorem dX4_owes_33 : decode cX4_owes 33 = .ok (.ireturn, 1) := by decide +kernel
set_option maxRecDepth 20000 in
theorem ggX4_owe_X2_hasDebt : GoodIn wsX4_owe wsX2_hasDebt := goodIn_r _ [6, 7, 8, 9, 5, 10, 11, 32, 33, 34, 35, 36] (by decide +kernel) (by decide +kernel)
set_option maxRecDepth 20000 in
theorem gX4_owe_X2_hasDebt : GoodIn wsX4_owe (wsV RX4 99 RX2 yX2_hasDebt wsX2_hasDebt) := goodIn_app (goodIn_of _ (by decide +kernel)) ggX4_owe_X2_hasDebt
set_option maxRecDepth 20000 in
theorem ggX4_owe_X4_isWithin : GoodIn wsX4_owe wsX4_isWithin := goodIn_r _ [15] (by decide +kernel) (by decide +kernel)
set_option maxRecDepth 20000 in
theorem gX4_owe_X4_isWithin : GoodIn wsX4_owe (va_wsS RX4 103 yX4_isWithin wsX4_isWithin) := goodIn_app (goodIn_of _ (by decide +kernel)) ggX4_owe_X4_isWithin
set_option maxRecDepth 20000 in
theorem ggX4_owe_X2_debt : GoodIn wsX4_owe wsX2_debt := goodIn_r _ [19, 20, 32, 33, 34, 35, 36] (by decide +kernel) (by decide +kernel)
set_option maxRecDepth 20000 in
theorem gX4_owe_X2_debt : GoodIn wsX4_owe (wsV RX4 95 RX2 yX2_debt wsX2_debt) := goodIn_app (goodIn_of _ (by decide +kernel)) ggX4_owe_X2_debt
set_option maxRecDepth 20000 in
theorem ggX4_owe_X2_setDebt : GoodIn wsX4_owe wsX2_setDebt := goodIn_r _ [24, 20, 32, 33, 34, 35, 36] (by decide +kernel) (by decide +kernel)
set_option maxRecDepth 20000 in
theorem gX4_owe_X2_setDebt : GoodIn wsX4_owe (wsV RX4 106 RX2 yX2_setDebt wsX2_setDebt) := goodIn_app (goodIn_of _ (by decide +kernel)) ggX4_owe_X2_setDebt
theorem dX4_owe_0 : decode cX4_owe 0 = .ok (.aload_n 0, 1) := by decide +kernel
theorem dX4_owe_1 : decode cX4_owe 1 = .ok (.getfield 12, 3) := by decide +kernel
theorem dX4_owe_4 : decode cX4_owe 4 = .ok (.iload_n 1, 1) := by decide +kernel
theorem dX4_owe_5 : decode cX4_owe 5 = .ok (.iload_n 2, 1) := by decide +kernel
theorem dX4_owe_6 : decode cX4_owe 6 = .ok (.invokevirtual 99, 3) := by decide +kernel
theorem dX4_owe_9 : decode cX4_owe 9 = .ok (.ifCond .ne 5, 3) := by decide +kernel
theorem dX4_owe_12 : decode cX4_owe 12 = .ok (.iconst (-1), 1) := by decide +kernel
theorem dX4_owe_13 : decode cX4_owe 13 = .ok (.ireturn, 1) := by decide +kernel
theorem dX4_owe_14 : decode cX4_owe 14 = .ok (.iload_n 3, 1) := by decide +kernel
theorem dX4_owe_15 : decode cX4_owe 15 = .ok (.bipush 9, 2) := by decide +kernel
theorem dX4_owe_17 : decode cX4_owe 17 = .ok (.invokestatic 103, 3) := by decide +kernel
theorem dX4_owe_20 : decode cX4_owe 20 = .ok (.ifCond .ne 6, 3) := by decide +kernel
theorem dX4_owe_23 : decode cX4_owe 23 = .ok (.bipush (-2), 2) := by decide +kernel
theorem dX4_owe_25 : decode cX4_owe 25 = .ok (.ireturn, 1) := by decide +kernel
theorem dX4_owe_26 : decode cX4_owe 26 = .ok (.aload_n 0, 1) := by decide +kernel
theorem dX4_owe_27 : decode cX4_owe 27 = .ok (.getfield 12, 3) := by decide +kernel
theorem dX4_owe_30 : decode cX4_owe 30 = .ok (.iload_n 1, 1) := by decide +kernel
theorem dX4_owe_31 : decode cX4_owe 31 = .ok (.iload_n 2, 1) := by decide +kernel
theorem dX4_owe_32 : decode cX4_owe 32 = .ok (.invokevirtual 95, 3) := by decide +kernel
theorem dX4_owe_35 : decode cX4_owe 35 = .ok (.istore 4, 2) := by decide +kernel
theorem dX4_owe_37 : decode cX4_owe 37 = .ok (.aload_n 0, 1) := by decide +kernel
theorem dX4_owe_38 : decode cX4_owe 38 = .ok (.getfield 12, 3) := by decide +kernel
theorem dX4_owe_41 : decode cX4_owe 41 = .ok (.iload_n 1, 1) := by decide +kernel
theorem dX4_owe_42 : decode cX4_owe 42 = .ok (.iload_n 2, 1) := by decide +kernel
theorem dX4_owe_43 : decode cX4_owe 43 = .ok (.iload_n 3, 1) := by decide +kernel
theorem dX4_owe_44 : decode cX4_owe 44 = .ok (.invokevirtual 106, 3) := by decide +kernel
theorem dX4_owe_47 : decode cX4_owe 47 = .ok (.iload 4, 2) := by decide +kernel
theorem dX4_owe_49 : decode cX4_owe 49 = .ok (.ireturn, 1) := by decide +kernel
set_option maxRecDepth 20000 in
theorem ggX4_bind_X2_hasBoy : GoodIn wsX4_bind wsX2_hasBoy := goodIn_r _ [6, 7, 20, 21, 22, 23, 24] (by decide +kernel) (by decide +kernel)
set_option maxRecDepth 20000 in
theorem gX4_bind_X2_hasBoy : GoodIn wsX4_bind (wsV RX4 79 RX2 yX2_hasBoy wsX2_hasBoy) := goodIn_app (goodIn_of _ (by decide +kernel)) ggX4_bind_X2_hasBoy
set_option maxRecDepth 20000 in
theorem ggX4_bind_X2_hasMaster : GoodIn wsX4_bind wsX2_hasMaster := goodIn_r _ [11, 12, 20, 21, 22, 23, 24] (by decide +kernel) (by decide +kernel)
set_option maxRecDepth 20000 in
theorem gX4_bind_X2_hasMaster : GoodIn wsX4_bind (wsV RX4 92 RX2 yX2_hasMaster wsX2_hasMaster) := goodIn_app (goodIn_of _ (by decide +kernel)) ggX4_bind_X2_hasMaster
theorem dX4_bind_0 : decode cX4_bind 0 = .ok (.aload_n 0, 1) := by decide +kernel
theorem dX4_bind_1 : decode cX4_bind 1 = .ok (.getfield 12, 3) := by decide +kernel
theorem dX4_bind_4 : decode cX4_bind 4 = .ok (.iload_n 1, 1) := by decide +kernel
theorem dX4_bind_5 : decode cX4_bind 5 = .ok (.invokevirtual 79, 3) := by decide +kernel
theorem dX4_bind_8 : decode cX4_bind 8 = .ok (.ifCond .eq 14, 3) := by decide +kernel
theorem dX4_bind_11 : decode cX4_bind 11 = .ok (.aload_n 0, 1) := by decide +kernel
theorem dX4_bind_12 : decode cX4_bind 12 = .ok (.getfield 12, 3) := by decide +kernel
theorem dX4_bind_15 : decode cX4_bind 15 = .ok (.iload_n 2, 1) := by decide +kernel
theorem dX4_bind_16 : decode cX4_bind 16 = .ok (.invokevirtual 92, 3) := by decide +kernel
theorem dX4_bind_19 : decode cX4_bind 19 = .ok (.ifCond .ne 5, 3) := by decide +kernel
theorem dX4_bind_22 : decode cX4_bind 22 = .ok (.iconst (-1), 1) := by decide +kernel
theorem dX4_bind_23 : decode cX4_bind 23 = .ok (.ireturn, 1) := by decide +kernel
theorem dX4_bind_24 : decode cX4_bind 24 = .ok (.aload_n 0, 1) := by decide +kernel
theorem dX4_bind_25 : decode cX4_bind 25 = .ok (.getfield 12, 3) := by decide +kernel
theorem dX4_bind_28 : decode cX4_bind 28 = .ok (.getfield 86, 3) := by decide +kernel
theorem dX4_bind_31 : decode cX4_bind 31 = .ok (.iload_n 1, 1) := by decide +kernel
theorem dX4_bind_32 : decode cX4_bind 32 = .ok (.iaload, 1) := by decide +kernel
theorem dX4_bind_33 : decode cX4_bind 33 = .ok (.istore_n 3, 1) := by decide +kernel
theorem dX4_bind_34 : decode cX4_bind 34 = .ok (.aload_n 0, 1) := by decide +kernel
theorem dX4_bind_35 : decode cX4_bind 35 = .ok (.getfield 12, 3) := by decide +kernel
theorem dX4_bind_38 : decode cX4_bind 38 = .ok (.getfield 86, 3) := by decide +kernel
theorem dX4_bind_41 : decode cX4_bind 41 = .ok (.iload_n 1, 1) := by decide +kernel
theorem dX4_bind_42 : decode cX4_bind 42 = .ok (.iload_n 2, 1) := by decide +kernel
theorem dX4_bind_43 : decode cX4_bind 43 = .ok (.iastore, 1) := by decide +kernel
theorem dX4_bind_44 : decode cX4_bind 44 = .ok (.iload_n 3, 1) := by decide +kernel
theorem dX4_bind_45 : decode cX4_bind 45 = .ok (.ireturn, 1) := by decide +kernel
set_option maxRecDepth 20000 in
theorem ggX4_next_X2_hasMaster : GoodIn wsX4_next wsX2_hasMaster := goodIn_r _ [6, 7, 24, 25, 26, 27, 28] (by decide +kernel) (by decide +kernel)
set_option maxRecDepth 20000 in
theorem gX4_next_X2_hasMaster : GoodIn wsX4_next (wsV RX4 92 RX2 yX2_hasMaster wsX2_hasMaster) := goodIn_app (goodIn_of _ (by decide +kernel)) ggX4_next_X2_hasMaster
set_option maxRecDepth 20000 in
theorem ggX4_next_X2_nextOf : GoodIn wsX4_next wsX2_nextOf := goodIn_r _ [11, 7, 12, 13, 14, 5, 15, 16, 24, 25, 26, 27, 28] (by decide +kernel) (by decide +kernel)
set_option maxRecDepth 20000 in
theorem gX4_next_X2_nextOf : GoodIn wsX4_next (wsV RX4 110 RX2 yX2_nextOf wsX2_nextOf) := goodIn_app (goodIn_of _ (by decide +kernel)) ggX4_next_X2_nextOf
theorem dX4_next_0 : decode cX4_next 0 = .ok (.aload_n 0, 1) := by decide +kernel
theorem dX4_next_1 : decode cX4_next 1 = .ok (.getfield 12, 3) := by decide +kernel
theorem dX4_next_4 : decode cX4_next 4 = .ok (.iload_n 1, 1) := by decide +kernel
theorem dX4_next_5 : decode cX4_next 5 = .ok (.invokevirtual 92, 3) := by decide +kernel
theorem dX4_next_8 : decode cX4_next 8 = .ok (.ifCond .ne 5, 3) := by decide +kernel
theorem dX4_next_11 : decode cX4_next 11 = .ok (.iconst (-1), 1) := by decide +kernel
theorem dX4_next_12 : decode cX4_next 12 = .ok (.ireturn, 1) := by decide +kernel
theorem dX4_next_13 : decode cX4_next 13 = .ok (.aload_n 0, 1) := by decide +kernel
theorem dX4_next_14 : decode cX4_next 14 = .ok (.getfield 12, 3) := by decide +kernel
theorem dX4_next_17 : decode cX4_next 17 = .ok (.iload_n 1, 1) := by decide +kernel
theorem dX4_next_18 : decode cX4_next 18 = .ok (.invokevirtual 110, 3) := by decide +kernel
theorem dX4_next_21 : decode cX4_next 21 = .ok (.ireturn, 1) := by decide +kernel
set_option maxRecDepth 20000 in
theorem ggX4_where_X2_hasBoy : GoodIn wsX4_where wsX2_hasBoy := goodIn_r _ [6, 7, 38, 39, 40, 41, 42] (by decide +kernel) (by decide +kernel)
set_option maxRecDepth 20000 in
theorem gX4_where_X2_hasBoy : GoodIn wsX4_where (wsV RX4 79 RX2 yX2_hasBoy wsX2_hasBoy) := goodIn_app (goodIn_of _ (by decide +kernel)) ggX4_where_X2_hasBoy
set_option maxRecDepth 20000 in
theorem ggX4_where_X4_isWithin : GoodIn wsX4_where wsX4_isWithin := goodIn_r _ [11] (by decide +kernel) (by decide +kernel)
set_option maxRecDepth 20000 in
theorem gX4_where_X4_isWithin : GoodIn wsX4_where (va_wsS RX4 103 yX4_isWithin wsX4_isWithin) := goodIn_app (goodIn_of _ (by decide +kernel)) ggX4_where_X4_isWithin
set_option maxRecDepth 20000 in
theorem ggX4_where_X2_masterBehind : GoodIn wsX4_where wsX2_masterBehind := goodIn_r _ [15, 16, 17, 18, 19, 5, 20, 21, 22, 23, 24, 25, 26, 27, 28, 29, 30, 38, 39, 40, 41, 42] (by decide +kernel) (by decide +kernel)
set_option maxRecDepth 20000 in
theorem gX4_where_X2_masterBehind : GoodIn wsX4_where (wsV RX4 113 RX2 yX2_masterBehind wsX2_masterBehind) := goodIn_app (goodIn_of _ (by decide +kernel)) ggX4_where_X2_masterBehind
theorem dX4_where_0 : decode cX4_where 0 = .ok (.aload_n 0, 1) := by decide +kernel
theorem dX4_where_1 : decode cX4_where 1 = .ok (.getfield 12, 3) := by decide +kernel
theorem dX4_where_4 : decode cX4_where 4 = .ok (.iload_n 1, 1) := by decide +kernel
theorem dX4_where_5 : decode cX4_where 5 = .ok (.invokevirtual 79, 3) := by decide +kernel
theorem dX4_where_8 : decode cX4_where 8 = .ok (.ifCond .ne 5, 3) := by decide +kernel
theorem dX4_where_11 : decode cX4_where 11 = .ok (.iconst (-1), 1) := by decide +kernel
theorem dX4_where_12 : decode cX4_where 12 = .ok (.ireturn, 1) := by decide +kernel
theorem dX4_where_13 : decode cX4_where 13 = .ok (.iload_n 2, 1) := by decide +kernel
theorem dX4_where_14 : decode cX4_where 14 = .ok (.bipush 60, 2) := by decide +kernel
theorem dX4_where_16 : decode cX4_where 16 = .ok (.invokestatic 103, 3) := by decide +kernel
theorem dX4_where_19 : decode cX4_where 19 = .ok (.ifCond .ne 6, 3) := by decide +kernel
theorem dX4_where_22 : decode cX4_where 22 = .ok (.bipush (-2), 2) := by decide +kernel
theorem dX4_where_24 : decode cX4_where 24 = .ok (.ireturn, 1) := by decide +kernel
theorem dX4_where_25 : decode cX4_where 25 = .ok (.aload_n 0, 1) := by decide +kernel
theorem dX4_where_26 : decode cX4_where 26 = .ok (.getfield 12, 3) := by decide +kernel
theorem dX4_where_29 : decode cX4_where 29 = .ok (.iload_n 1, 1) := by decide +kernel
theorem dX4_where_30 : decode cX4_where 30 = .ok (.iload_n 2, 1) := by decide +kernel
theorem dX4_where_31 : decode cX4_where 31 = .ok (.invokevirtual 113, 3) := by decide +kernel
theorem dX4_where_34 : decode cX4_where 34 = .ok (.ireturn, 1) := by decide +kernel
set_option maxRecDepth 20000 in
theorem ggX4_knows_X2_hasBoy : GoodIn wsX4_knows wsX2_hasBoy := goodIn_r _ [6, 7, 41, 42, 43, 44, 45] (by decide +kernel) (by decide +kernel)
set_option maxRecDepth 20000 in
theorem gX4_knows_X2_hasBoy : GoodIn wsX4_knows (wsV RX4 79 RX2 yX2_hasBoy wsX2_hasBoy) := goodIn_app (goodIn_of _ (by decide +kernel)) ggX4_knows_X2_hasBoy
set_option maxRecDepth 20000 in
theorem ggX4_knows_X2_hasMaster : GoodIn wsX4_knows wsX2_hasMaster := goodIn_r _ [11, 12, 41, 42, 43, 44, 45] (by decide +kernel) (by decide +kernel)
set_option maxRecDepth 20000 in
theorem gX4_knows_X2_hasMaster : GoodIn wsX4_knows (wsV RX4 92 RX2 yX2_hasMaster wsX2_hasMaster) := goodIn_app (goodIn_of _ (by decide +kernel)) ggX4_knows_X2_hasMaster
set_option maxRecDepth 20000 in
theorem ggX4_knows_X4_isWithin : GoodIn wsX4_knows wsX4_isWithin := goodIn_r _ [16] (by decide +kernel) (by decide +kernel)
set_option maxRecDepth 20000 in
theorem gX4_knows_X4_isWithin : GoodIn wsX4_knows (va_wsS RX4 103 yX4_isWithin wsX4_isWithin) := goodIn_app (goodIn_of _ (by decide +kernel)) ggX4_knows_X4_isWithin
set_option maxRecDepth 20000 in
theorem ggX4_knows_X2_knownBehind : GoodIn wsX4_knows wsX2_knownBehind := goodIn_r _ [20, 21, 22, 23, 15, 24, 25, 26, 27, 5, 28, 12, 29, 30, 31, 32, 33, 41, 42, 43, 44, 45] (by decide +kernel) (by decide +kernel)
set_option maxRecDepth 20000 in
theorem gX4_knows_X2_knownBehind : GoodIn wsX4_knows (wsV RX4 116 RX2 yX2_knownBehind wsX2_knownBehind) := goodIn_app (goodIn_of _ (by decide +kernel)) ggX4_knows_X2_knownBehind
theorem dX4_knows_0 : decode cX4_knows 0 = .ok (.aload_n 0, 1) := by decide +kernel
theorem dX4_knows_1 : decode cX4_knows 1 = .ok (.getfield 12, 3) := by decide +kernel
theorem dX4_knows_4 : decode cX4_knows 4 = .ok (.iload_n 1, 1) := by decide +kernel
theorem dX4_knows_5 : decode cX4_knows 5 = .ok (.invokevirtual 79, 3) := by decide +kernel
theorem dX4_knows_8 : decode cX4_knows 8 = .ok (.ifCond .eq 14, 3) := by decide +kernel
theorem dX4_knows_11 : decode cX4_knows 11 = .ok (.aload_n 0, 1) := by decide +kernel
theorem dX4_knows_12 : decode cX4_knows 12 = .ok (.getfield 12, 3) := by decide +kernel
theorem dX4_knows_15 : decode cX4_knows 15 = .ok (.iload_n 2, 1) := by decide +kernel
theorem dX4_knows_16 : decode cX4_knows 16 = .ok (.invokevirtual 92, 3) := by decide +kernel
theorem dX4_knows_19 : decode cX4_knows 19 = .ok (.ifCond .ne 5, 3) := by decide +kernel
theorem dX4_knows_22 : decode cX4_knows 22 = .ok (.iconst (-1), 1) := by decide +kernel
theorem dX4_knows_23 : decode cX4_knows 23 = .ok (.ireturn, 1) := by decide +kernel
theorem dX4_knows_24 : decode cX4_knows 24 = .ok (.iload_n 3, 1) := by decide +kernel
theorem dX4_knows_25 : decode cX4_knows 25 = .ok (.bipush 60, 2) := by decide +kernel
theorem dX4_knows_27 : decode cX4_knows 27 = .ok (.invokestatic 103, 3) := by decide +kernel
theorem dX4_knows_30 : decode cX4_knows 30 = .ok (.ifCond .ne 6, 3) := by decide +kernel
theorem dX4_knows_33 : decode cX4_knows 33 = .ok (.bipush (-2), 2) := by decide +kernel
theorem dX4_knows_35 : decode cX4_knows 35 = .ok (.ireturn, 1) := by decide +kernel
theorem dX4_knows_36 : decode cX4_knows 36 = .ok (.aload_n 0, 1) := by decide +kernel
theorem dX4_knows_37 : decode cX4_knows 37 = .ok (.getfield 12, 3) := by decide +kernel
theorem dX4_knows_40 : decode cX4_knows 40 = .ok (.iload_n 1, 1) := by decide +kernel
theorem dX4_knows_41 : decode cX4_knows 41 = .ok (.iload_n 2, 1) := by decide +kernel
theorem dX4_knows_42 : decode cX4_knows 42 = .ok (.iload_n 3, 1) := by decide +kernel
theorem dX4_knows_43 : decode cX4_knows 43 = .ok (.invokevirtual 116, 3) := by decide +kernel
theorem dX4_knows_46 : decode cX4_knows 46 = .ok (.ireturn, 1) := by decide +kernel
set_option maxRecDepth 20000 in
theorem ggX4_able_X4_isWithin : GoodIn wsX4_able wsX4_isWithin := goodIn_r _ [5] (by decide +kernel) (by decide +kernel)
set_option maxRecDepth 20000 in
theorem gX4_able_X4_isWithin : GoodIn wsX4_able (va_wsS RX4 103 yX4_isWithin wsX4_isWithin) := goodIn_app (goodIn_of _ (by decide +kernel)) ggX4_able_X4_isWithin
set_option maxRecDepth 20000 in
theorem ggX4_able_X2_masterBehind : GoodIn wsX4_able wsX2_masterBehind := goodIn_r _ [10, 11, 12, 13, 14, 9, 15, 16, 17, 18, 19, 20, 21, 22, 23, 24, 25, 40, 41, 42, 43, 44] (by decide +kernel) (by decide +kernel)
set_option maxRecDepth 20000 in
theorem gX4_able_X2_masterBehind : GoodIn wsX4_able (wsV RX4 113 RX2 yX2_masterBehind wsX2_masterBehind) := goodIn_app (goodIn_of _ (by decide +kernel)) ggX4_able_X2_masterBehind
set_option maxRecDepth 20000 in
theorem ggX4_able_X2_knownBehind : GoodIn wsX4_able wsX2_knownBehind := goodIn_r _ [29, 11, 30, 31, 4, 32, 16, 17, 18, 9, 19, 20, 21, 22, 23, 24, 25, 40, 41, 42, 43, 44] (by decide +kernel) (by decide +kernel)
set_option maxRecDepth 20000 in
theorem gX4_able_X2_knownBehind : GoodIn wsX4_able (wsV RX4 116 RX2 yX2_knownBehind wsX2_knownBehind) := goodIn_app (goodIn_of _ (by decide +kernel)) ggX4_able_X2_knownBehind
theorem dX4_able_0 : decode cX4_able 0 = .ok (.iload_n 1, 1) := by decide +kernel
theorem dX4_able_1 : decode cX4_able 1 = .ok (.bipush 60, 2) := by decide +kernel
theorem dX4_able_3 : decode cX4_able 3 = .ok (.invokestatic 103, 3) := by decide +kernel
theorem dX4_able_6 : decode cX4_able 6 = .ok (.ifCond .ne 6, 3) := by decide +kernel
theorem dX4_able_9 : decode cX4_able 9 = .ok (.bipush (-2), 2) := by decide +kernel
theorem dX4_able_11 : decode cX4_able 11 = .ok (.ireturn, 1) := by decide +kernel
theorem dX4_able_12 : decode cX4_able 12 = .ok (.aload_n 0, 1) := by decide +kernel
theorem dX4_able_13 : decode cX4_able 13 = .ok (.getfield 12, 3) := by decide +kernel
theorem dX4_able_16 : decode cX4_able 16 = .ok (.getfield 119, 3) := by decide +kernel
theorem dX4_able_19 : decode cX4_able 19 = .ok (.ifCond .ne 6, 3) := by decide +kernel
theorem dX4_able_22 : decode cX4_able 22 = .ok (.bipush (-3), 2) := by decide +kernel
theorem dX4_able_24 : decode cX4_able 24 = .ok (.ireturn, 1) := by decide +kernel
theorem dX4_able_25 : decode cX4_able 25 = .ok (.iconst 0, 1) := by decide +kernel
theorem dX4_able_26 : decode cX4_able 26 = .ok (.istore_n 2, 1) := by decide +kernel
theorem dX4_able_27 : decode cX4_able 27 = .ok (.iconst 0, 1) := by decide +kernel
theorem dX4_able_28 : decode cX4_able 28 = .ok (.istore_n 3, 1) := by decide +kernel
theorem dX4_able_29 : decode cX4_able 29 = .ok (.iload_n 3, 1) := by decide +kernel
theorem dX4_able_30 : decode cX4_able 30 = .ok (.aload_n 0, 1) := by decide +kernel
theorem dX4_able_31 : decode cX4_able 31 = .ok (.getfield 12, 3) := by decide +kernel
theorem dX4_able_34 : decode cX4_able 34 = .ok (.getfield 76, 3) := by decide +kernel
theorem dX4_able_37 : decode cX4_able 37 = .ok (.if_icmp .ge 43, 3) := by decide +kernel
theorem dX4_able_40 : decode cX4_able 40 = .ok (.aload_n 0, 1) := by decide +kernel
theorem dX4_able_41 : decode cX4_able 41 = .ok (.getfield 12, 3) := by decide +kernel
theorem dX4_able_44 : decode cX4_able 44 = .ok (.iload_n 3, 1) := by decide +kernel
theorem dX4_able_45 : decode cX4_able 45 = .ok (.iload_n 1, 1) := by decide +kernel
theorem dX4_able_46 : decode cX4_able 46 = .ok (.invokevirtual 113, 3) := by decide +kernel
theorem dX4_able_49 : decode cX4_able 49 = .ok (.istore 4, 2) := by decide +kernel
theorem dX4_able_51 : decode cX4_able 51 = .ok (.aload_n 0, 1) := by decide +kernel
theorem dX4_able_52 : decode cX4_able 52 = .ok (.getfield 12, 3) := by decide +kernel
theorem dX4_able_55 : decode cX4_able 55 = .ok (.iload_n 3, 1) := by decide +kernel
theorem dX4_able_56 : decode cX4_able 56 = .ok (.iload 4, 2) := by decide +kernel
theorem dX4_able_58 : decode cX4_able 58 = .ok (.iload_n 1, 1) := by decide +kernel
theorem dX4_able_59 : decode cX4_able 59 = .ok (.invokevirtual 116, 3) := by decide +kernel
theorem dX4_able_62 : decode cX4_able 62 = .ok (.bipush 9, 2) := by decide +kernel
theorem dX4_able_64 : decode cX4_able 64 = .ok (.if_icmp .lt 10, 3) := by decide +kernel
theorem dX4_able_67 : decode cX4_able 67 = .ok (.iload_n 2, 1) := by decide +kernel
theorem dX4_able_68 : decode cX4_able 68 = .ok (.iconst 1, 1) := by decide +kernel
theorem dX4_able_69 : decode cX4_able 69 = .ok (.iload 4, 2) := by decide +kernel
theorem dX4_able_71 : decode cX4_able 71 = .ok (.ishl, 1) := by decide +kernel
theorem dX4_able_72 : decode cX4_able 72 = .ok (.ior, 1) := by decide +kernel
theorem dX4_able_73 : decode cX4_able 73 = .ok (.istore_n 2, 1) := by decide +kernel
theorem dX4_able_74 : decode cX4_able 74 = .ok (.iinc 3 1, 3) := by decide +kernel
theorem dX4_able_77 : decode cX4_able 77 = .ok (.goto (-48), 3) := by decide +kernel
theorem dX4_able_80 : decode cX4_able 80 = .ok (.iload_n 2, 1) := by decide +kernel
theorem dX4_able_81 : decode cX4_able 81 = .ok (.ireturn, 1) := by decide +kernel
set_option maxRecDepth 20000 in
theorem ggX4_ring_X2_hasMaster : GoodIn wsX4_ring wsX2_hasMaster := goodIn_r _ [6, 7, 32, 33, 34, 35, 36] (by decide +kernel) (by decide +kernel)
set_option maxRecDepth 20000 in
theorem gX4_ring_X2_hasMaster : GoodIn wsX4_ring (wsV RX4 92 RX2 yX2_hasMaster wsX2_hasMaster) := goodIn_app (goodIn_of _ (by decide +kernel)) ggX4_ring_X2_hasMaster
set_option maxRecDepth 20000 in
theorem ggX4_ring_X2_stepsFrom : GoodIn wsX4_ring wsX2_stepsFrom := goodIn_r _ [11, 12, 13, 14, 5, 15, 7, 16, 17, 18, 19, 20, 32, 33, 34, 35, 36] (by decide +kernel) (by decide +kernel)
set_option maxRecDepth 20000 in
theorem gX4_ring_X2_stepsFrom : GoodIn wsX4_ring (wsV RX4 122 RX2 yX2_stepsFrom wsX2_stepsFrom) := goodIn_app (goodIn_of _ (by decide +kernel)) ggX4_ring_X2_stepsFrom
set_option maxRecDepth 20000 in
theorem ggX4_ring_X2_metFrom : GoodIn wsX4_ring wsX2_metFrom := goodIn_r _ [24, 7, 12, 13, 14, 5, 15, 16, 17, 18, 19, 20, 32, 33, 34, 35, 36] (by decide +kernel) (by decide +kernel)
set_option maxRecDepth 20000 in
theorem gX4_ring_X2_metFrom : GoodIn wsX4_ring (wsV RX4 125 RX2 yX2_metFrom wsX2_metFrom) := goodIn_app (goodIn_of _ (by decide +kernel)) ggX4_ring_X2_metFrom
theorem dX4_ring_0 : decode cX4_ring 0 = .ok (.aload_n 0, 1) := by decide +kernel
theorem dX4_ring_1 : decode cX4_ring 1 = .ok (.getfield 12, 3) := by decide +kernel
theorem dX4_ring_4 : decode cX4_ring 4 = .ok (.iload_n 1, 1) := by decide +kernel
theorem dX4_ring_5 : decode cX4_ring 5 = .ok (.invokevirtual 92, 3) := by decide +kernel
theorem dX4_ring_8 : decode cX4_ring 8 = .ok (.ifCond .ne 5, 3) := by decide +kernel
theorem dX4_ring_11 : decode cX4_ring 11 = .ok (.iconst (-1), 1) := by decide +kernel
theorem dX4_ring_12 : decode cX4_ring 12 = .ok (.ireturn, 1) := by decide +kernel
theorem dX4_ring_13 : decode cX4_ring 13 = .ok (.aload_n 0, 1) := by decide +kernel
theorem dX4_ring_14 : decode cX4_ring 14 = .ok (.getfield 12, 3) := by decide +kernel
theorem dX4_ring_17 : decode cX4_ring 17 = .ok (.iload_n 1, 1) := by decide +kernel
theorem dX4_ring_18 : decode cX4_ring 18 = .ok (.aload_n 0, 1) := by decide +kernel
theorem dX4_ring_19 : decode cX4_ring 19 = .ok (.getfield 12, 3) := by decide +kernel
theorem dX4_ring_22 : decode cX4_ring 22 = .ok (.getfield 119, 3) := by decide +kernel
theorem dX4_ring_25 : decode cX4_ring 25 = .ok (.invokevirtual 122, 3) := by decide +kernel
theorem dX4_ring_28 : decode cX4_ring 28 = .ok (.istore_n 2, 1) := by decide +kernel
theorem dX4_ring_29 : decode cX4_ring 29 = .ok (.aload_n 0, 1) := by decide +kernel
theorem dX4_ring_30 : decode cX4_ring 30 = .ok (.getfield 12, 3) := by decide +kernel
theorem dX4_ring_33 : decode cX4_ring 33 = .ok (.iload_n 2, 1) := by decide +kernel
theorem dX4_ring_34 : decode cX4_ring 34 = .ok (.invokevirtual 125, 3) := by decide +kernel
theorem dX4_ring_37 : decode cX4_ring 37 = .ok (.ireturn, 1) := by decide +kernel
set_option maxRecDepth 20000 in
theorem ggX4_home_X2_hasBoy : GoodIn wsX4_home wsX2_hasBoy := goodIn_r _ [6, 7, 34, 35, 36, 37, 38] (by decide +kernel) (by decide +kernel)
set_option maxRecDepth 20000 in
theorem gX4_home_X2_hasBoy : GoodIn wsX4_home (wsV RX4 79 RX2 yX2_hasBoy wsX2_hasBoy) := goodIn_app (goodIn_of _ (by decide +kernel)) ggX4_home_X2_hasBoy
set_option maxRecDepth 20000 in
theorem ggX4_home_X2_masterBehind : GoodIn wsX4_home wsX2_masterBehind := goodIn_r _ [11, 12, 13, 14, 15, 5, 16, 17, 18, 19, 20, 21, 22, 23, 24, 25, 26, 34, 35, 36, 37, 38] (by decide +kernel) (by decide +kernel)
set_option maxRecDepth 20000 in
theorem gX4_home_X2_masterBehind : GoodIn wsX4_home (wsV RX4 113 RX2 yX2_masterBehind wsX2_masterBehind) := goodIn_app (goodIn_of _ (by decide +kernel)) ggX4_home_X2_masterBehind
theorem dX4_home_0 : decode cX4_home 0 = .ok (.aload_n 0, 1) := by decide +kernel
theorem dX4_home_1 : decode cX4_home 1 = .ok (.getfield 12, 3) := by decide +kernel
theorem dX4_home_4 : decode cX4_home 4 = .ok (.iload_n 1, 1) := by decide +kernel
theorem dX4_home_5 : decode cX4_home 5 = .ok (.invokevirtual 79, 3) := by decide +kernel
theorem dX4_home_8 : decode cX4_home 8 = .ok (.ifCond .ne 5, 3) := by decide +kernel
theorem dX4_home_11 : decode cX4_home 11 = .ok (.iconst (-1), 1) := by decide +kernel
theorem dX4_home_12 : decode cX4_home 12 = .ok (.ireturn, 1) := by decide +kernel
theorem dX4_home_13 : decode cX4_home 13 = .ok (.iconst 1, 1) := by decide +kernel
theorem dX4_home_14 : decode cX4_home 14 = .ok (.istore_n 2, 1) := by decide +kernel
theorem dX4_home_15 : decode cX4_home 15 = .ok (.iload_n 2, 1) := by decide +kernel
theorem dX4_home_16 : decode cX4_home 16 = .ok (.aload_n 0, 1) := by decide +kernel
theorem dX4_home_17 : decode cX4_home 17 = .ok (.getfield 12, 3) := by decide +kernel
theorem dX4_home_20 : decode cX4_home 20 = .ok (.getfield 119, 3) := by decide +kernel
theorem dX4_home_23 : decode cX4_home 23 = .ok (.if_icmp .gt 32, 3) := by decide +kernel
theorem dX4_home_26 : decode cX4_home 26 = .ok (.aload_n 0, 1) := by decide +kernel
theorem dX4_home_27 : decode cX4_home 27 = .ok (.getfield 12, 3) := by decide +kernel
theorem dX4_home_30 : decode cX4_home 30 = .ok (.iload_n 1, 1) := by decide +kernel
theorem dX4_home_31 : decode cX4_home 31 = .ok (.iload_n 2, 1) := by decide +kernel
theorem dX4_home_32 : decode cX4_home 32 = .ok (.invokevirtual 113, 3) := by decide +kernel
theorem dX4_home_35 : decode cX4_home 35 = .ok (.aload_n 0, 1) := by decide +kernel
theorem dX4_home_36 : decode cX4_home 36 = .ok (.getfield 12, 3) := by decide +kernel
theorem dX4_home_39 : decode cX4_home 39 = .ok (.getfield 86, 3) := by decide +kernel
theorem dX4_home_42 : decode cX4_home 42 = .ok (.iload_n 1, 1) := by decide +kernel
theorem dX4_home_43 : decode cX4_home 43 = .ok (.iaload, 1) := by decide +kernel
theorem dX4_home_44 : decode cX4_home 44 = .ok (.if_icmp .ne 5, 3) := by decide +kernel
theorem dX4_home_47 : decode cX4_home 47 = .ok (.iload_n 2, 1) := by decide +kernel
theorem dX4_home_48 : decode cX4_home 48 = .ok (.ireturn, 1) := by decide +kernel
theorem dX4_home_49 : decode cX4_home 49 = .ok (.iinc 2 1, 3) := by decide +kernel
theorem dX4_home_52 : decode cX4_home 52 = .ok (.goto (-37), 3) := by decide +kernel
theorem dX4_home_55 : decode cX4_home 55 = .ok (.bipush (-9), 2) := by decide +kernel
theorem dX4_home_57 : decode cX4_home 57 = .ok (.ireturn, 1) := by decide +kernel
set_option maxRecDepth 20000 in
theorem ggX4_never_X2_hasBoy : GoodIn wsX4_never wsX2_hasBoy := goodIn_r _ [6, 7, 33, 34, 35, 36, 37] (by decide +kernel) (by decide +kernel)
set_option maxRecDepth 20000 in
theorem gX4_never_X2_hasBoy : GoodIn wsX4_never (wsV RX4 79 RX2 yX2_hasBoy wsX2_hasBoy) := goodIn_app (goodIn_of _ (by decide +kernel)) ggX4_never_X2_hasBoy
set_option maxRecDepth 20000 in
theorem ggX4_never_X2_allMasters : GoodIn wsX4_never wsX2_allMasters := goodIn_r _ [11, 12, 33, 34, 35, 36, 37] (by decide +kernel) (by decide +kernel)
set_option maxRecDepth 20000 in
theorem gX4_never_X2_allMasters : GoodIn wsX4_never (wsV RX4 128 RX2 yX2_allMasters wsX2_allMasters) := goodIn_app (goodIn_of _ (by decide +kernel)) ggX4_never_X2_allMasters
set_option maxRecDepth 20000 in
theorem ggX4_never_X2_metFrom : GoodIn wsX4_never wsX2_metFrom := goodIn_r _ [16, 12, 17, 18, 19, 5, 20, 21, 22, 23, 24, 25, 33, 34, 35, 36, 37] (by decide +kernel) (by decide +kernel)
set_option maxRecDepth 20000 in
theorem gX4_never_X2_metFrom : GoodIn wsX4_never (wsV RX4 125 RX2 yX2_metFrom wsX2_metFrom) := goodIn_app (goodIn_of _ (by decide +kernel)) ggX4_never_X2_metFrom
theorem dX4_never_0 : decode cX4_never 0 = .ok (.aload_n 0, 1) := by decide +kernel
theorem dX4_never_1 : decode cX4_never 1 = .ok (.getfield 12, 3) := by decide +kernel
theorem dX4_never_4 : decode cX4_never 4 = .ok (.iload_n 1, 1) := by decide +kernel
theorem dX4_never_5 : decode cX4_never 5 = .ok (.invokevirtual 79, 3) := by decide +kernel
theorem dX4_never_8 : decode cX4_never 8 = .ok (.ifCond .ne 5, 3) := by decide +kernel
theorem dX4_never_11 : decode cX4_never 11 = .ok (.iconst (-1), 1) := by decide +kernel
theorem dX4_never_12 : decode cX4_never 12 = .ok (.ireturn, 1) := by decide +kernel
theorem dX4_never_13 : decode cX4_never 13 = .ok (.aload_n 0, 1) := by decide +kernel
theorem dX4_never_14 : decode cX4_never 14 = .ok (.getfield 12, 3) := by decide +kernel
theorem dX4_never_17 : decode cX4_never 17 = .ok (.invokevirtual 128, 3) := by decide +kernel
theorem dX4_never_20 : decode cX4_never 20 = .ok (.aload_n 0, 1) := by decide +kernel
theorem dX4_never_21 : decode cX4_never 21 = .ok (.getfield 12, 3) := by decide +kernel
theorem dX4_never_24 : decode cX4_never 24 = .ok (.aload_n 0, 1) := by decide +kernel
theorem dX4_never_25 : decode cX4_never 25 = .ok (.getfield 12, 3) := by decide +kernel
theorem dX4_never_28 : decode cX4_never 28 = .ok (.getfield 86, 3) := by decide +kernel
theorem dX4_never_31 : decode cX4_never 31 = .ok (.iload_n 1, 1) := by decide +kernel
theorem dX4_never_32 : decode cX4_never 32 = .ok (.iaload, 1) := by decide +kernel
theorem dX4_never_33 : decode cX4_never 33 = .ok (.invokevirtual 125, 3) := by decide +kernel
theorem dX4_never_36 : decode cX4_never 36 = .ok (.iconst (-1), 1) := by decide +kernel
theorem dX4_never_37 : decode cX4_never 37 = .ok (.ixor, 1) := by decide +kernel
theorem dX4_never_38 : decode cX4_never 38 = .ok (.iand, 1) := by decide +kernel
theorem dX4_never_39 : decode cX4_never 39 = .ok (.ireturn, 1) := by decide +kernel
set_option maxRecDepth 20000 in
theorem ggX4_walk_X2_hasBoy : GoodIn wsX4_walk wsX2_hasBoy := goodIn_r _ [8, 9, 81, 82, 83, 84, 85] (by decide +kernel) (by decide +kernel)
set_option maxRecDepth 20000 in
theorem gX4_walk_X2_hasBoy : GoodIn wsX4_walk (wsV RX4 79 RX2 yX2_hasBoy wsX2_hasBoy) := goodIn_app (goodIn_of _ (by decide +kernel)) ggX4_walk_X2_hasBoy
set_option maxRecDepth 20000 in
theorem ggX4_walk_X4_isSheet : GoodIn wsX4_walk wsX4_isSheet := goodIn_r _ [13] (by decide +kernel) (by decide +kernel)
set_option maxRecDepth 20000 in
theorem gX4_walk_X4_isSheet : GoodIn wsX4_walk (va_wsS RX4 45 yX4_isSheet wsX4_isSheet) := goodIn_app (goodIn_of _ (by decide +kernel)) ggX4_walk_X4_isSheet
set_option maxRecDepth 20000 in
theorem ggX4_walk_X4_refused : GoodIn wsX4_walk wsX4_refused := goodIn_r _ [17, 3, 74, 75, 76, 77, 78, 79, 80] (by decide +kernel) (by decide +kernel)
set_option maxRecDepth 20000 in
theorem gX4_walk_X4_refused : GoodIn wsX4_walk (wsV RX4 49 RX4 yX4_refused wsX4_refused) := goodIn_app (goodIn_of _ (by decide +kernel)) ggX4_walk_X4_refused
set_option maxRecDepth 20000 in
theorem ggX4_walk_X4_isLane : GoodIn wsX4_walk wsX4_isLane := goodIn_r _ [20] (by decide +kernel) (by decide +kernel)
set_option maxRecDepth 20000 in
theorem gX4_walk_X4_isLane : GoodIn wsX4_walk (va_wsS RX4 53 yX4_isLane wsX4_isLane) := goodIn_app (goodIn_of _ (by decide +kernel)) ggX4_walk_X4_isLane
set_option maxRecDepth 20000 in
theorem ggX4_walk_X4_isWithin : GoodIn wsX4_walk wsX4_isWithin := goodIn_r _ [23] (by decide +kernel) (by decide +kernel)
set_option maxRecDepth 20000 in
theorem gX4_walk_X4_isWithin : GoodIn wsX4_walk (va_wsS RX4 103 yX4_isWithin wsX4_isWithin) := goodIn_app (goodIn_of _ (by decide +kernel)) ggX4_walk_X4_isWithin
set_option maxRecDepth 20000 in
theorem ggX4_walk_X1_faultOfTaking : GoodIn wsX4_walk wsX1_faultOfTaking := goodIn_r _ [28, 29, 30, 31, 32, 27, 33, 34, 35, 36, 37, 38, 86, 87, 88] (by decide +kernel) (by decide +kernel)
set_option maxRecDepth 20000 in
theorem gX4_walk_X1_faultOfTaking : GoodIn wsX4_walk (wsV RX4 56 RX1 yX1_faultOfTaking wsX1_faultOfTaking) := goodIn_app (goodIn_of _ (by decide +kernel)) ggX4_walk_X1_faultOfTaking
set_option maxRecDepth 20000 in
theorem ggX4_walk_X4_faulted : GoodIn wsX4_walk wsX4_faulted := goodIn_r _ [42, 3, 74, 75, 76, 77, 78, 79, 80] (by decide +kernel) (by decide +kernel)
set_option maxRecDepth 20000 in
theorem gX4_walk_X4_faulted : GoodIn wsX4_walk (wsV RX4 60 RX4 yX4_faulted wsX4_faulted) := goodIn_app (goodIn_of _ (by decide +kernel)) ggX4_walk_X4_faulted
set_option maxRecDepth 20000 in
theorem ggX4_walk_X4_allMastersTold : GoodIn wsX4_walk wsX4_allMastersTold := goodIn_r _ [46, 1, 47, 48, 49, 7, 50, 51, 74, 75, 76, 77, 78, 79, 80, 86, 87, 88, 81, 82, 83, 84, 85] (by decide +kernel) (by decide +kernel)
set_option maxRecDepth 20000 in
theorem gX4_walk_X4_allMastersTold : GoodIn wsX4_walk (wsV RX4 131 RX4 yX4_allMastersTold wsX4_allMastersTold) := goodIn_app (goodIn_of _ (by decide +kernel)) ggX4_walk_X4_allMastersTold
set_option maxRecDepth 20000 in
theorem ggX4_walk_X4_firstWrong : GoodIn wsX4_walk wsX4_firstWrong := goodIn_r _ [55, 1, 56, 57, 58, 7, 59, 60, 61, 62, 63, 64, 65, 66, 67, 68, 51, 69, 70, 71, 72, 73, 86, 87, 88, 74, 75, 76, 77, 78, 79, 80, 81, 82, 83, 84, 85] (by decide +kernel) (by decide +kernel)
set_option maxRecDepth 20000 in
theorem gX4_walk_X4_firstWrong : GoodIn wsX4_walk (wsV RX4 135 RX4 yX4_firstWrong wsX4_firstWrong) := goodIn_app (goodIn_of _ (by decide +kernel)) ggX4_walk_X4_firstWrong
theorem dX4_walk_0 : decode cX4_walk 0 = .ok (.aload_n 0, 1) := by decide +kernel
theorem dX4_walk_1 : decode cX4_walk 1 = .ok (.getfield 12, 3) := by decide +kernel
theorem dX4_walk_4 : decode cX4_walk 4 = .ok (.iload_n 1, 1) := by decide +kernel
theorem dX4_walk_5 : decode cX4_walk 5 = .ok (.invokevirtual 79, 3) := by decide +kernel
theorem dX4_walk_8 : decode cX4_walk 8 = .ok (.ifCond .eq 10, 3) := by decide +kernel
theorem dX4_walk_11 : decode cX4_walk 11 = .ok (.iload_n 2, 1) := by decide +kernel
theorem dX4_walk_12 : decode cX4_walk 12 = .ok (.invokestatic 45, 3) := by decide +kernel
theorem dX4_walk_15 : decode cX4_walk 15 = .ok (.ifCond .ne 9, 3) := by decide +kernel
theorem dX4_walk_18 : decode cX4_walk 18 = .ok (.aload_n 0, 1) := by decide +kernel
theorem dX4_walk_19 : decode cX4_walk 19 = .ok (.iconst (-1), 1) := by decide +kernel
theorem dX4_walk_20 : decode cX4_walk 20 = .ok (.invokevirtual 49, 3) := by decide +kernel
theorem dX4_walk_23 : decode cX4_walk 23 = .ok (.ireturn, 1) := by decide +kernel
theorem dX4_walk_24 : decode cX4_walk 24 = .ok (.iload_n 3, 1) := by decide +kernel
theorem dX4_walk_25 : decode cX4_walk 25 = .ok (.invokestatic 53, 3) := by decide +kernel
theorem dX4_walk_28 : decode cX4_walk 28 = .ok (.ifCond .eq 13, 3) := by decide +kernel
theorem dX4_walk_31 : decode cX4_walk 31 = .ok (.iload 5, 2) := by decide +kernel
theorem dX4_walk_33 : decode cX4_walk 33 = .ok (.bipush 40, 2) := by decide +kernel
theorem dX4_walk_35 : decode cX4_walk 35 = .ok (.invokestatic 103, 3) := by decide +kernel
theorem dX4_walk_38 : decode cX4_walk 38 = .ok (.ifCond .ne 10, 3) := by decide +kernel
theorem dX4_walk_41 : decode cX4_walk 41 = .ok (.aload_n 0, 1) := by decide +kernel
theorem dX4_walk_42 : decode cX4_walk 42 = .ok (.bipush (-2), 2) := by decide +kernel
theorem dX4_walk_44 : decode cX4_walk 44 = .ok (.invokevirtual 49, 3) := by decide +kernel
theorem dX4_walk_47 : decode cX4_walk 47 = .ok (.ireturn, 1) := by decide +kernel
theorem dX4_walk_48 : decode cX4_walk 48 = .ok (.aload_n 0, 1) := by decide +kernel
theorem dX4_walk_49 : decode cX4_walk 49 = .ok (.getfield 33, 3) := by decide +kernel
theorem dX4_walk_52 : decode cX4_walk 52 = .ok (.iload_n 2, 1) := by decide +kernel
theorem dX4_walk_53 : decode cX4_walk 53 = .ok (.aaload, 1) := by decide +kernel
theorem dX4_walk_54 : decode cX4_walk 54 = .ok (.astore 6, 2) := by decide +kernel
theorem dX4_walk_56 : decode cX4_walk 56 = .ok (.aload 6, 2) := by decide +kernel
theorem dX4_walk_58 : decode cX4_walk 58 = .ok (.iload_n 3, 1) := by decide +kernel
theorem dX4_walk_59 : decode cX4_walk 59 = .ok (.iload 4, 2) := by decide +kernel
theorem dX4_walk_61 : decode cX4_walk 61 = .ok (.iload 5, 2) := by decide +kernel
theorem dX4_walk_63 : decode cX4_walk 63 = .ok (.invokevirtual 56, 3) := by decide +kernel
theorem dX4_walk_66 : decode cX4_walk 66 = .ok (.istore 7, 2) := by decide +kernel
theorem dX4_walk_68 : decode cX4_walk 68 = .ok (.iload 7, 2) := by decide +kernel
theorem dX4_walk_70 : decode cX4_walk 70 = .ok (.ifCond .eq 10, 3) := by decide +kernel
theorem dX4_walk_73 : decode cX4_walk 73 = .ok (.aload_n 0, 1) := by decide +kernel
theorem dX4_walk_74 : decode cX4_walk 74 = .ok (.iload 7, 2) := by decide +kernel
theorem dX4_walk_76 : decode cX4_walk 76 = .ok (.invokevirtual 60, 3) := by decide +kernel
theorem dX4_walk_79 : decode cX4_walk 79 = .ok (.ireturn, 1) := by decide +kernel
theorem dX4_walk_80 : decode cX4_walk 80 = .ok (.aload_n 0, 1) := by decide +kernel
theorem dX4_walk_81 : decode cX4_walk 81 = .ok (.iconst 0, 1) := by decide +kernel
theorem dX4_walk_82 : decode cX4_walk 82 = .ok (.putfield 40, 3) := by decide +kernel
theorem dX4_walk_85 : decode cX4_walk 85 = .ok (.aload_n 0, 1) := by decide +kernel
theorem dX4_walk_86 : decode cX4_walk 86 = .ok (.aload 6, 2) := by decide +kernel
theorem dX4_walk_88 : decode cX4_walk 88 = .ok (.iload 4, 2) := by decide +kernel
theorem dX4_walk_90 : decode cX4_walk 90 = .ok (.iload 5, 2) := by decide +kernel
theorem dX4_walk_92 : decode cX4_walk 92 = .ok (.invokevirtual 131, 3) := by decide +kernel
theorem dX4_walk_95 : decode cX4_walk 95 = .ok (.ifCond .eq 17, 3) := by decide +kernel
theorem dX4_walk_98 : decode cX4_walk 98 = .ok (.aload_n 0, 1) := by decide +kernel
theorem dX4_walk_99 : decode cX4_walk 99 = .ok (.iload_n 1, 1) := by decide +kernel
theorem dX4_walk_100 : decode cX4_walk 100 = .ok (.aload 6, 2) := by decide +kernel
theorem dX4_walk_102 : decode cX4_walk 102 = .ok (.iload 4, 2) := by decide +kernel
theorem dX4_walk_104 : decode cX4_walk 104 = .ok (.iload 5, 2) := by decide +kernel
theorem dX4_walk_106 : decode cX4_walk 106 = .ok (.invokevirtual 135, 3) := by decide +kernel
theorem dX4_walk_109 : decode cX4_walk 109 = .ok (.goto 4, 3) := by decide +kernel
theorem dX4_walk_112 : decode cX4_walk 112 = .ok (.iconst (-1), 1) := by decide +kernel
theorem dX4_walk_113 : decode cX4_walk 113 = .ok (.ireturn, 1) := by decide +kernel
set_option maxRecDepth 20000 in
theorem ggX4_allMastersTold_X2_hasMaster : GoodIn wsX4_allMastersTold wsX2_hasMaster := goodIn_r _ [6, 7, 18, 19, 20, 21, 22] (by decide +kernel) (by decide +kernel)
set_option maxRecDepth 20000 in
theorem gX4_allMastersTold_X2_hasMaster : GoodIn wsX4_allMastersTold (wsV RX4 92 RX2 yX2_hasMaster wsX2_hasMaster) := goodIn_app (goodIn_of _ (by decide +kernel)) ggX4_allMastersTold_X2_hasMaster
theorem dX4_allMastersTold_0 : decode cX4_allMastersTold 0 = .ok (.iconst 0, 1) := by decide +kernel
theorem dX4_allMastersTold_1 : decode cX4_allMastersTold 1 = .ok (.istore 4, 2) := by decide +kernel
theorem dX4_allMastersTold_3 : decode cX4_allMastersTold 3 = .ok (.iload 4, 2) := by decide +kernel
theorem dX4_allMastersTold_5 : decode cX4_allMastersTold 5 = .ok (.iload_n 3, 1) := by decide +kernel
theorem dX4_allMastersTold_6 : decode cX4_allMastersTold 6 = .ok (.if_icmp .ge 30, 3) := by decide +kernel
theorem dX4_allMastersTold_9 : decode cX4_allMastersTold 9 = .ok (.aload_n 0, 1) := by decide +kernel
theorem dX4_allMastersTold_10 : decode cX4_allMastersTold 10 = .ok (.getfield 12, 3) := by decide +kernel
theorem dX4_allMastersTold_13 : decode cX4_allMastersTold 13 = .ok (.aload_n 1, 1) := by decide +kernel
theorem dX4_allMastersTold_14 : decode cX4_allMastersTold 14 = .ok (.getfield 139, 3) := by decide +kernel
theorem dX4_allMastersTold_17 : decode cX4_allMastersTold 17 = .ok (.iload_n 2, 1) := by decide +kernel
theorem dX4_allMastersTold_18 : decode cX4_allMastersTold 18 = .ok (.iload 4, 2) := by decide +kernel
theorem dX4_allMastersTold_20 : decode cX4_allMastersTold 20 = .ok (.iadd, 1) := by decide +kernel
theorem dX4_allMastersTold_21 : decode cX4_allMastersTold 21 = .ok (.iaload, 1) := by decide +kernel
theorem dX4_allMastersTold_22 : decode cX4_allMastersTold 22 = .ok (.invokevirtual 92, 3) := by decide +kernel
theorem dX4_allMastersTold_25 : decode cX4_allMastersTold 25 = .ok (.ifCond .ne 5, 3) := by decide +kernel
theorem dX4_allMastersTold_28 : decode cX4_allMastersTold 28 = .ok (.iconst 0, 1) := by decide +kernel
theorem dX4_allMastersTold_29 : decode cX4_allMastersTold 29 = .ok (.ireturn, 1) := by decide +kernel
theorem dX4_allMastersTold_30 : decode cX4_allMastersTold 30 = .ok (.iinc 4 1, 3) := by decide +kernel
theorem dX4_allMastersTold_33 : decode cX4_allMastersTold 33 = .ok (.goto (-30), 3) := by decide +kernel
theorem dX4_allMastersTold_36 : decode cX4_allMastersTold 36 = .ok (.iconst 1, 1) := by decide +kernel
theorem dX4_allMastersTold_37 : decode cX4_allMastersTold 37 = .ok (.ireturn, 1) := by decide +kernel
set_option maxRecDepth 20000 in
theorem ggX4_firstWrong_X2_masterBehind : GoodIn wsX4_firstWrong wsX2_masterBehind := goodIn_r _ [6, 7, 8, 9, 10, 5, 11, 12, 13, 14, 15, 16, 17, 18, 19, 20, 21, 32, 33, 34, 35, 36] (by decide +kernel) (by decide +kernel)
set_option maxRecDepth 20000 in
theorem gX4_firstWrong_X2_masterBehind : GoodIn wsX4_firstWrong (wsV RX4 113 RX2 yX2_masterBehind wsX2_masterBehind) := goodIn_app (goodIn_of _ (by decide +kernel)) ggX4_firstWrong_X2_masterBehind
theorem dX4_firstWrong_0 : decode cX4_firstWrong 0 = .ok (.iconst 0, 1) := by decide +kernel
theorem dX4_firstWrong_1 : decode cX4_firstWrong 1 = .ok (.istore 5, 2) := by decide +kernel
theorem dX4_firstWrong_3 : decode cX4_firstWrong 3 = .ok (.iload 5, 2) := by decide +kernel
theorem dX4_firstWrong_5 : decode cX4_firstWrong 5 = .ok (.iload 4, 2) := by decide +kernel
theorem dX4_firstWrong_7 : decode cX4_firstWrong 7 = .ok (.if_icmp .ge 34, 3) := by decide +kernel
theorem dX4_firstWrong_10 : decode cX4_firstWrong 10 = .ok (.aload_n 2, 1) := by decide +kernel
theorem dX4_firstWrong_11 : decode cX4_firstWrong 11 = .ok (.getfield 139, 3) := by decide +kernel
theorem dX4_firstWrong_14 : decode cX4_firstWrong 14 = .ok (.iload_n 3, 1) := by decide +kernel
theorem dX4_firstWrong_15 : decode cX4_firstWrong 15 = .ok (.iload 5, 2) := by decide +kernel
theorem dX4_firstWrong_17 : decode cX4_firstWrong 17 = .ok (.iadd, 1) := by decide +kernel
theorem dX4_firstWrong_18 : decode cX4_firstWrong 18 = .ok (.iaload, 1) := by decide +kernel
theorem dX4_firstWrong_19 : decode cX4_firstWrong 19 = .ok (.aload_n 0, 1) := by decide +kernel
theorem dX4_firstWrong_20 : decode cX4_firstWrong 20 = .ok (.getfield 12, 3) := by decide +kernel
theorem dX4_firstWrong_23 : decode cX4_firstWrong 23 = .ok (.iload_n 1, 1) := by decide +kernel
theorem dX4_firstWrong_24 : decode cX4_firstWrong 24 = .ok (.iload 5, 2) := by decide +kernel
theorem dX4_firstWrong_26 : decode cX4_firstWrong 26 = .ok (.invokevirtual 113, 3) := by decide +kernel
theorem dX4_firstWrong_29 : decode cX4_firstWrong 29 = .ok (.if_icmp .eq 6, 3) := by decide +kernel
theorem dX4_firstWrong_32 : decode cX4_firstWrong 32 = .ok (.iload 5, 2) := by decide +kernel
theorem dX4_firstWrong_34 : decode cX4_firstWrong 34 = .ok (.ireturn, 1) := by decide +kernel
theorem dX4_firstWrong_35 : decode cX4_firstWrong 35 = .ok (.iinc 5 1, 3) := by decide +kernel
theorem dX4_firstWrong_38 : decode cX4_firstWrong 38 = .ok (.goto (-35), 3) := by decide +kernel
theorem dX4_firstWrong_41 : decode cX4_firstWrong 41 = .ok (.bipush (-9), 2) := by decide +kernel
theorem dX4_firstWrong_43 : decode cX4_firstWrong 43 = .ok (.ireturn, 1) := by decide +kernel
set_option maxRecDepth 20000 in
theorem ggX4_forge_X2_hasBoy : GoodIn wsX4_forge wsX2_hasBoy := goodIn_r _ [7, 8, 62, 63, 64, 65, 66] (by decide +kernel) (by decide +kernel)
set_option maxRecDepth 20000 in
theorem gX4_forge_X2_hasBoy : GoodIn wsX4_forge (wsV RX4 79 RX2 yX2_hasBoy wsX2_hasBoy) := goodIn_app (goodIn_of _ (by decide +kernel)) ggX4_forge_X2_hasBoy
set_option maxRecDepth 20000 in
theorem ggX4_forge_X2_hasMaster : GoodIn wsX4_forge wsX2_hasMaster := goodIn_r _ [12, 13, 62, 63, 64, 65, 66] (by decide +kernel) (by decide +kernel)
set_option maxRecDepth 20000 in
theorem gX4_forge_X2_hasMaster : GoodIn wsX4_forge (wsV RX4 92 RX2 yX2_hasMaster wsX2_hasMaster) := goodIn_app (goodIn_of _ (by decide +kernel)) ggX4_forge_X2_hasMaster
set_option maxRecDepth 20000 in
theorem ggX4_forge_X4_isWithin : GoodIn wsX4_forge wsX4_isWithin := goodIn_r _ [17] (by decide +kernel) (by decide +kernel)
set_option maxRecDepth 20000 in
theorem gX4_forge_X4_isWithin : GoodIn wsX4_forge (va_wsS RX4 103 yX4_isWithin wsX4_isWithin) := goodIn_app (goodIn_of _ (by decide +kernel)) ggX4_forge_X4_isWithin
set_option maxRecDepth 20000 in
theorem ggX4_forge_X2_masterBehind : GoodIn wsX4_forge wsX2_masterBehind := goodIn_r _ [21, 22, 23, 24, 25, 6, 26, 27, 28, 29, 30, 13, 31, 32, 33, 34, 35, 62, 63, 64, 65, 66] (by decide +kernel) (by decide +kernel)
set_option maxRecDepth 20000 in
theorem gX4_forge_X2_masterBehind : GoodIn wsX4_forge (wsV RX4 113 RX2 yX2_masterBehind wsX2_masterBehind) := goodIn_app (goodIn_of _ (by decide +kernel)) ggX4_forge_X2_masterBehind
set_option maxRecDepth 20000 in
theorem ggX4_forge_X2_takeOver : GoodIn wsX4_forge wsX2_takeOver := goodIn_r _ [39, 35, 40, 41, 42, 43, 44, 22, 13, 8, 62, 63, 64, 65, 66] (by decide +kernel) (by decide +kernel)
set_option maxRecDepth 20000 in
theorem gX4_forge_X2_takeOver : GoodIn wsX4_forge (wsV RX4 142 RX2 yX2_takeOver wsX2_takeOver) := goodIn_app (goodIn_of _ (by decide +kernel)) ggX4_forge_X2_takeOver
set_option maxRecDepth 20000 in
theorem ggX4_forge_X4_forgedPence : GoodIn wsX4_forge wsX4_forgedPence := goodIn_r _ [48, 1, 2, 49, 28, 29, 6, 30, 13, 31, 32, 33, 34, 35, 50, 51, 52, 53, 54, 55, 56, 57, 58, 59, 60, 61, 62, 63, 64, 65, 66] (by decide +kernel) (by decide +kernel)
set_option maxRecDepth 20000 in
theorem gX4_forge_X4_forgedPence : GoodIn wsX4_forge (wsV RX4 145 RX4 yX4_forgedPence wsX4_forgedPence) := goodIn_app (goodIn_of _ (by decide +kernel)) ggX4_forge_X4_forgedPence
set_option maxRecDepth 20000 in
theorem ggX4_forge_X2_debt : GoodIn wsX4_forge wsX2_debt := goodIn_r _ [34, 35, 62, 63, 64, 65, 66] (by decide +kernel) (by decide +kernel)
set_option maxRecDepth 20000 in
theorem gX4_forge_X2_debt : GoodIn wsX4_forge (wsV RX4 95 RX2 yX2_debt wsX2_debt) := goodIn_app (goodIn_of _ (by decide +kernel)) ggX4_forge_X2_debt
set_option maxRecDepth 20000 in
theorem ggX4_forge_X2_setDebt : GoodIn wsX4_forge wsX2_setDebt := goodIn_r _ [54, 35, 62, 63, 64, 65, 66] (by decide +kernel) (by decide +kernel)
set_option maxRecDepth 20000 in
theorem gX4_forge_X2_setDebt : GoodIn wsX4_forge (wsV RX4 106 RX2 yX2_setDebt wsX2_setDebt) := goodIn_app (goodIn_of _ (by decide +kernel)) ggX4_forge_X2_setDebt
theorem dX4_forge_0 : decode cX4_forge 0 = .ok (.aload_n 0, 1) := by decide +kernel
theorem dX4_forge_1 : decode cX4_forge 1 = .ok (.getfield 12, 3) := by decide +kernel
theorem dX4_forge_4 : decode cX4_forge 4 = .ok (.iload_n 1, 1) := by decide +kernel
theorem dX4_forge_5 : decode cX4_forge 5 = .ok (.invokevirtual 79, 3) := by decide +kernel
theorem dX4_forge_8 : decode cX4_forge 8 = .ok (.ifCond .eq 14, 3) := by decide +kernel
theorem dX4_forge_11 : decode cX4_forge 11 = .ok (.aload_n 0, 1) := by decide +kernel
theorem dX4_forge_12 : decode cX4_forge 12 = .ok (.getfield 12, 3) := by decide +kernel
theorem dX4_forge_15 : decode cX4_forge 15 = .ok (.iload_n 2, 1) := by decide +kernel
theorem dX4_forge_16 : decode cX4_forge 16 = .ok (.invokevirtual 92, 3) := by decide +kernel
theorem dX4_forge_19 : decode cX4_forge 19 = .ok (.ifCond .ne 5, 3) := by decide +kernel
theorem dX4_forge_22 : decode cX4_forge 22 = .ok (.iconst (-1), 1) := by decide +kernel
theorem dX4_forge_23 : decode cX4_forge 23 = .ok (.ireturn, 1) := by decide +kernel
theorem dX4_forge_24 : decode cX4_forge 24 = .ok (.iload_n 3, 1) := by decide +kernel
theorem dX4_forge_25 : decode cX4_forge 25 = .ok (.bipush 20, 2) := by decide +kernel
theorem dX4_forge_27 : decode cX4_forge 27 = .ok (.invokestatic 103, 3) := by decide +kernel
theorem dX4_forge_30 : decode cX4_forge 30 = .ok (.ifCond .eq 12, 3) := by decide +kernel
theorem dX4_forge_33 : decode cX4_forge 33 = .ok (.iload 4, 2) := by decide +kernel
theorem dX4_forge_35 : decode cX4_forge 35 = .ok (.iconst 2, 1) := by decide +kernel
theorem dX4_forge_36 : decode cX4_forge 36 = .ok (.invokestatic 103, 3) := by decide +kernel
theorem dX4_forge_39 : decode cX4_forge 39 = .ok (.ifCond .ne 6, 3) := by decide +kernel
theorem dX4_forge_42 : decode cX4_forge 42 = .ok (.bipush (-2), 2) := by decide +kernel
theorem dX4_forge_44 : decode cX4_forge 44 = .ok (.ireturn, 1) := by decide +kernel
theorem dX4_forge_45 : decode cX4_forge 45 = .ok (.aload_n 0, 1) := by decide +kernel
theorem dX4_forge_46 : decode cX4_forge 46 = .ok (.getfield 12, 3) := by decide +kernel
theorem dX4_forge_49 : decode cX4_forge 49 = .ok (.iload_n 1, 1) := by decide +kernel
theorem dX4_forge_50 : decode cX4_forge 50 = .ok (.iload_n 3, 1) := by decide +kernel
theorem dX4_forge_51 : decode cX4_forge 51 = .ok (.invokevirtual 113, 3) := by decide +kernel
theorem dX4_forge_54 : decode cX4_forge 54 = .ok (.iload_n 2, 1) := by decide +kernel
theorem dX4_forge_55 : decode cX4_forge 55 = .ok (.if_icmp .ne 15, 3) := by decide +kernel
theorem dX4_forge_58 : decode cX4_forge 58 = .ok (.iload 4, 2) := by decide +kernel
theorem dX4_forge_60 : decode cX4_forge 60 = .ok (.ifCond .ne 7, 3) := by decide +kernel
theorem dX4_forge_63 : decode cX4_forge 63 = .ok (.iconst 0, 1) := by decide +kernel
theorem dX4_forge_64 : decode cX4_forge 64 = .ok (.goto 5, 3) := by decide +kernel
theorem dX4_forge_67 : decode cX4_forge 67 = .ok (.bipush (-9), 2) := by decide +kernel
theorem dX4_forge_69 : decode cX4_forge 69 = .ok (.ireturn, 1) := by decide +kernel
theorem dX4_forge_70 : decode cX4_forge 70 = .ok (.bipush (-9), 2) := by decide +kernel
theorem dX4_forge_72 : decode cX4_forge 72 = .ok (.istore 5, 2) := by decide +kernel
theorem dX4_forge_74 : decode cX4_forge 74 = .ok (.bipush (-9), 2) := by decide +kernel
theorem dX4_forge_76 : decode cX4_forge 76 = .ok (.istore 6, 2) := by decide +kernel
theorem dX4_forge_78 : decode cX4_forge 78 = .ok (.bipush (-9), 2) := by decide +kernel
theorem dX4_forge_80 : decode cX4_forge 80 = .ok (.istore 7, 2) := by decide +kernel
theorem dX4_forge_82 : decode cX4_forge 82 = .ok (.aload_n 0, 1) := by decide +kernel
theorem dX4_forge_83 : decode cX4_forge 83 = .ok (.getfield 18, 3) := by decide +kernel
theorem dX4_forge_86 : decode cX4_forge 86 = .ok (.aload_n 0, 1) := by decide +kernel
theorem dX4_forge_87 : decode cX4_forge 87 = .ok (.getfield 12, 3) := by decide +kernel
theorem dX4_forge_90 : decode cX4_forge 90 = .ok (.invokevirtual 142, 3) := by decide +kernel
theorem dX4_forge_93 : decode cX4_forge 93 = .ok (.iconst 0, 1) := by decide +kernel
theorem dX4_forge_94 : decode cX4_forge 94 = .ok (.istore 8, 2) := by decide +kernel
theorem dX4_forge_96 : decode cX4_forge 96 = .ok (.iload 8, 2) := by decide +kernel
theorem dX4_forge_98 : decode cX4_forge 98 = .ok (.aload_n 0, 1) := by decide +kernel
theorem dX4_forge_99 : decode cX4_forge 99 = .ok (.getfield 12, 3) := by decide +kernel
theorem dX4_forge_102 : decode cX4_forge 102 = .ok (.getfield 119, 3) := by decide +kernel
theorem dX4_forge_105 : decode cX4_forge 105 = .ok (.if_icmp .ge 120, 3) := by decide +kernel
theorem dX4_forge_108 : decode cX4_forge 108 = .ok (.iconst 0, 1) := by decide +kernel
theorem dX4_forge_109 : decode cX4_forge 109 = .ok (.istore 9, 2) := by decide +kernel
theorem dX4_forge_111 : decode cX4_forge 111 = .ok (.iload 9, 2) := by decide +kernel
theorem dX4_forge_113 : decode cX4_forge 113 = .ok (.aload_n 0, 1) := by decide +kernel
theorem dX4_forge_114 : decode cX4_forge 114 = .ok (.getfield 12, 3) := by decide +kernel
theorem dX4_forge_117 : decode cX4_forge 117 = .ok (.getfield 119, 3) := by decide +kernel
theorem dX4_forge_120 : decode cX4_forge 120 = .ok (.if_icmp .ge 99, 3) := by decide +kernel
theorem dX4_forge_123 : decode cX4_forge 123 = .ok (.aload_n 0, 1) := by decide +kernel
theorem dX4_forge_124 : decode cX4_forge 124 = .ok (.iload 8, 2) := by decide +kernel
theorem dX4_forge_126 : decode cX4_forge 126 = .ok (.iload 9, 2) := by decide +kernel
theorem dX4_forge_128 : decode cX4_forge 128 = .ok (.invokevirtual 145, 3) := by decide +kernel
theorem dX4_forge_131 : decode cX4_forge 131 = .ok (.istore 10, 2) := by decide +kernel
theorem dX4_forge_133 : decode cX4_forge 133 = .ok (.iload 10, 2) := by decide +kernel
theorem dX4_forge_135 : decode cX4_forge 135 = .ok (.bipush (-9), 2) := by decide +kernel
theorem dX4_forge_137 : decode cX4_forge 137 = .ok (.if_icmp .eq 21, 3) := by decide +kernel
theorem dX4_forge_140 : decode cX4_forge 140 = .ok (.iload 5, 2) := by decide +kernel
theorem dX4_forge_142 : decode cX4_forge 142 = .ok (.bipush (-9), 2) := by decide +kernel
theorem dX4_forge_144 : decode cX4_forge 144 = .ok (.if_icmp .eq 10, 3) := by decide +kernel
theorem dX4_forge_147 : decode cX4_forge 147 = .ok (.iload 10, 2) := by decide +kernel
theorem dX4_forge_149 : decode cX4_forge 149 = .ok (.iload 5, 2) := by decide +kernel
theorem dX4_forge_151 : decode cX4_forge 151 = .ok (.if_icmp .ge 7, 3) := by decide +kernel
theorem dX4_forge_154 : decode cX4_forge 154 = .ok (.iconst 1, 1) := by decide +kernel
theorem dX4_forge_155 : decode cX4_forge 155 = .ok (.goto 4, 3) := by decide +kernel
theorem dX4_forge_158 : decode cX4_forge 158 = .ok (.iconst 0, 1) := by decide +kernel
theorem dX4_forge_159 : decode cX4_forge 159 = .ok (.istore 11, 2) := by decide +kernel
theorem dX4_forge_161 : decode cX4_forge 161 = .ok (.iload 11, 2) := by decide +kernel
theorem dX4_forge_163 : decode cX4_forge 163 = .ok (.ifCond .eq 28, 3) := by decide +kernel
theorem dX4_forge_166 : decode cX4_forge 166 = .ok (.aload_n 0, 1) := by decide +kernel
theorem dX4_forge_167 : decode cX4_forge 167 = .ok (.getfield 18, 3) := by decide +kernel
