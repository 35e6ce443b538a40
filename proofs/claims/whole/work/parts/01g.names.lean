theorem dX5_findForge_9 : decode cX5_findForge 9 = .ok (.putfield 140, 3) := by decide +kernel
theorem dX5_findForge_12 : decode cX5_findForge 12 = .ok (.aload_n 0, 1) := by decide +kernel
theorem dX5_findForge_13 : decode cX5_findForge 13 = .ok (.iload_n 1, 1) := by decide +kernel
theorem dX5_findForge_14 : decode cX5_findForge 14 = .ok (.iload_n 3, 1) := by decide +kernel
theorem dX5_findForge_15 : decode cX5_findForge 15 = .ok (.invokevirtual 131, 3) := by decide +kernel
theorem dX5_findForge_18 : decode cX5_findForge 18 = .ok (.iload_n 2, 1) := by decide +kernel
theorem dX5_findForge_19 : decode cX5_findForge 19 = .ok (.if_icmp .ne 5, 3) := by decide +kernel
theorem dX5_findForge_22 : decode cX5_findForge 22 = .ok (.iconst 0, 1) := by decide +kernel
theorem dX5_findForge_23 : decode cX5_findForge 23 = .ok (.ireturn, 1) := by decide +kernel
theorem dX5_findForge_24 : decode cX5_findForge 24 = .ok (.iconst 1, 1) := by decide +kernel
theorem dX5_findForge_25 : decode cX5_findForge 25 = .ok (.istore 4, 2) := by decide +kernel
theorem dX5_findForge_27 : decode cX5_findForge 27 = .ok (.iload 4, 2) := by decide +kernel
theorem dX5_findForge_29 : decode cX5_findForge 29 = .ok (.bipush 9, 2) := by decide +kernel
theorem dX5_findForge_31 : decode cX5_findForge 31 = .ok (.if_icmp .gt 83, 3) := by decide +kernel
theorem dX5_findForge_34 : decode cX5_findForge 34 = .ok (.iconst 0, 1) := by decide +kernel
theorem dX5_findForge_35 : decode cX5_findForge 35 = .ok (.istore 5, 2) := by decide +kernel
theorem dX5_findForge_37 : decode cX5_findForge 37 = .ok (.iload 5, 2) := by decide +kernel
theorem dX5_findForge_39 : decode cX5_findForge 39 = .ok (.aload_n 0, 1) := by decide +kernel
theorem dX5_findForge_40 : decode cX5_findForge 40 = .ok (.getfield 65, 3) := by decide +kernel
theorem dX5_findForge_43 : decode cX5_findForge 43 = .ok (.aload_n 0, 1) := by decide +kernel
theorem dX5_findForge_44 : decode cX5_findForge 44 = .ok (.getfield 65, 3) := by decide +kernel
theorem dX5_findForge_47 : decode cX5_findForge 47 = .ok (.imul, 1) := by decide +kernel
theorem dX5_findForge_48 : decode cX5_findForge 48 = .ok (.if_icmp .ge 60, 3) := by decide +kernel
theorem dX5_findForge_51 : decode cX5_findForge 51 = .ok (.aload_n 0, 1) := by decide +kernel
theorem dX5_findForge_52 : decode cX5_findForge 52 = .ok (.iload 5, 2) := by decide +kernel
theorem dX5_findForge_54 : decode cX5_findForge 54 = .ok (.aload_n 0, 1) := by decide +kernel
theorem dX5_findForge_55 : decode cX5_findForge 55 = .ok (.getfield 65, 3) := by decide +kernel
theorem dX5_findForge_58 : decode cX5_findForge 58 = .ok (.idiv, 1) := by decide +kernel
theorem dX5_findForge_59 : decode cX5_findForge 59 = .ok (.iload 5, 2) := by decide +kernel
theorem dX5_findForge_61 : decode cX5_findForge 61 = .ok (.aload_n 0, 1) := by decide +kernel
theorem dX5_findForge_62 : decode cX5_findForge 62 = .ok (.getfield 65, 3) := by decide +kernel
theorem dX5_findForge_65 : decode cX5_findForge 65 = .ok (.irem, 1) := by decide +kernel
theorem dX5_findForge_66 : decode cX5_findForge 66 = .ok (.iload 4, 2) := by decide +kernel
theorem dX5_findForge_68 : decode cX5_findForge 68 = .ok (.iload_n 1, 1) := by decide +kernel
theorem dX5_findForge_69 : decode cX5_findForge 69 = .ok (.iload_n 2, 1) := by decide +kernel
theorem dX5_findForge_70 : decode cX5_findForge 70 = .ok (.iload_n 3, 1) := by decide +kernel
theorem dX5_findForge_71 : decode cX5_findForge 71 = .ok (.invokevirtual 143, 3) := by decide +kernel
theorem dX5_findForge_74 : decode cX5_findForge 74 = .ok (.ifCond .eq 28, 3) := by decide +kernel
theorem dX5_findForge_77 : decode cX5_findForge 77 = .ok (.aload_n 0, 1) := by decide +kernel
theorem dX5_findForge_78 : decode cX5_findForge 78 = .ok (.iload 5, 2) := by decide +kernel
theorem dX5_findForge_80 : decode cX5_findForge 80 = .ok (.aload_n 0, 1) := by decide +kernel
theorem dX5_findForge_81 : decode cX5_findForge 81 = .ok (.getfield 65, 3) := by decide +kernel
theorem dX5_findForge_84 : decode cX5_findForge 84 = .ok (.idiv, 1) := by decide +kernel
theorem dX5_findForge_85 : decode cX5_findForge 85 = .ok (.putfield 137, 3) := by decide +kernel
theorem dX5_findForge_88 : decode cX5_findForge 88 = .ok (.aload_n 0, 1) := by decide +kernel
theorem dX5_findForge_89 : decode cX5_findForge 89 = .ok (.iload 5, 2) := by decide +kernel
theorem dX5_findForge_91 : decode cX5_findForge 91 = .ok (.aload_n 0, 1) := by decide +kernel
theorem dX5_findForge_92 : decode cX5_findForge 92 = .ok (.getfield 65, 3) := by decide +kernel
theorem dX5_findForge_95 : decode cX5_findForge 95 = .ok (.irem, 1) := by decide +kernel
theorem dX5_findForge_96 : decode cX5_findForge 96 = .ok (.putfield 140, 3) := by decide +kernel
theorem dX5_findForge_99 : decode cX5_findForge 99 = .ok (.iload 4, 2) := by decide +kernel
theorem dX5_findForge_101 : decode cX5_findForge 101 = .ok (.ireturn, 1) := by decide +kernel
theorem dX5_findForge_102 : decode cX5_findForge 102 = .ok (.iinc 5 1, 3) := by decide +kernel
theorem dX5_findForge_105 : decode cX5_findForge 105 = .ok (.goto (-68), 3) := by decide +kernel
theorem dX5_findForge_108 : decode cX5_findForge 108 = .ok (.iinc 4 1, 3) := by decide +kernel
theorem dX5_findForge_111 : decode cX5_findForge 111 = .ok (.goto (-84), 3) := by decide +kernel
theorem dX5_findForge_114 : decode cX5_findForge 114 = .ok (.bipush (-9), 2) := by decide +kernel
theorem dX5_findForge_116 : decode cX5_findForge 116 = .ok (.ireturn, 1) := by decide +kernel
set_option maxRecDepth 20000 in
theorem ggX5_forge_X5_isBoy : GoodIn wsX5_forge wsX5_isBoy := goodIn_r _ [7, 8, 38, 39, 40, 41, 42, 43, 44, 45, 46, 47, 48, 49, 50, 51, 52, 53, 54, 55, 56, 57, 58, 59, 60, 61, 62] (by decide +kernel) (by decide +kernel)
set_option maxRecDepth 20000 in
theorem gX5_forge_X5_isBoy : GoodIn wsX5_forge (wsV RX5 119 RX5 yX5_isBoy wsX5_isBoy) := goodIn_app (goodIn_of _ (by decide +kernel)) ggX5_forge_X5_isBoy
set_option maxRecDepth 20000 in
theorem ggX5_forge_X5_isMaster : GoodIn wsX5_forge wsX5_isMaster := goodIn_r _ [12, 13, 38, 39, 40, 41, 42, 43, 44, 45, 46, 47, 48, 49, 50, 51, 52, 53, 54, 55, 56, 57, 58, 59, 60, 61, 62] (by decide +kernel) (by decide +kernel)
set_option maxRecDepth 20000 in
theorem gX5_forge_X5_isMaster : GoodIn wsX5_forge (wsV RX5 125 RX5 yX5_isMaster wsX5_isMaster) := goodIn_app (goodIn_of _ (by decide +kernel)) ggX5_forge_X5_isMaster
set_option maxRecDepth 20000 in
theorem ggX5_forge_X5_within : GoodIn wsX5_forge wsX5_within := goodIn_r _ [16] (by decide +kernel) (by decide +kernel)
set_option maxRecDepth 20000 in
theorem gX5_forge_X5_within : GoodIn wsX5_forge (va_wsS RX5 61 yX5_within wsX5_within) := goodIn_app (goodIn_of _ (by decide +kernel)) ggX5_forge_X5_within
set_option maxRecDepth 20000 in
theorem ggX5_forge_X5_findForge : GoodIn wsX5_forge wsX5_findForge := goodIn_r _ [20, 1, 2, 13, 21, 22, 23, 6, 24, 25, 26, 27, 28, 29, 30, 31, 32, 33, 34, 35, 36, 37, 38, 39, 40, 41, 42, 43, 44, 45, 46, 47, 48, 49, 50, 51, 52, 53, 54, 55, 56, 57, 58, 59, 60, 61, 62] (by decide +kernel) (by decide +kernel)
set_option maxRecDepth 20000 in
theorem gX5_forge_X5_findForge : GoodIn wsX5_forge (wsV RX5 147 RX5 yX5_findForge wsX5_findForge) := goodIn_app (goodIn_of _ (by decide +kernel)) ggX5_forge_X5_findForge
theorem dX5_forge_0 : decode cX5_forge 0 = .ok (.aload_n 0, 1) := by decide +kernel
theorem dX5_forge_1 : decode cX5_forge 1 = .ok (.iload_n 1, 1) := by decide +kernel
theorem dX5_forge_2 : decode cX5_forge 2 = .ok (.invokevirtual 119, 3) := by decide +kernel
theorem dX5_forge_5 : decode cX5_forge 5 = .ok (.ifCond .eq 11, 3) := by decide +kernel
theorem dX5_forge_8 : decode cX5_forge 8 = .ok (.aload_n 0, 1) := by decide +kernel
theorem dX5_forge_9 : decode cX5_forge 9 = .ok (.iload_n 2, 1) := by decide +kernel
theorem dX5_forge_10 : decode cX5_forge 10 = .ok (.invokevirtual 125, 3) := by decide +kernel
theorem dX5_forge_13 : decode cX5_forge 13 = .ok (.ifCond .ne 5, 3) := by decide +kernel
theorem dX5_forge_16 : decode cX5_forge 16 = .ok (.iconst (-1), 1) := by decide +kernel
theorem dX5_forge_17 : decode cX5_forge 17 = .ok (.ireturn, 1) := by decide +kernel
theorem dX5_forge_18 : decode cX5_forge 18 = .ok (.iload_n 3, 1) := by decide +kernel
theorem dX5_forge_19 : decode cX5_forge 19 = .ok (.iconst 0, 1) := by decide +kernel
theorem dX5_forge_20 : decode cX5_forge 20 = .ok (.bipush 20, 2) := by decide +kernel
theorem dX5_forge_22 : decode cX5_forge 22 = .ok (.invokestatic 61, 3) := by decide +kernel
theorem dX5_forge_25 : decode cX5_forge 25 = .ok (.ifCond .eq 13, 3) := by decide +kernel
theorem dX5_forge_28 : decode cX5_forge 28 = .ok (.iload 4, 2) := by decide +kernel
theorem dX5_forge_30 : decode cX5_forge 30 = .ok (.iconst 0, 1) := by decide +kernel
theorem dX5_forge_31 : decode cX5_forge 31 = .ok (.iconst 2, 1) := by decide +kernel
theorem dX5_forge_32 : decode cX5_forge 32 = .ok (.invokestatic 61, 3) := by decide +kernel
theorem dX5_forge_35 : decode cX5_forge 35 = .ok (.ifCond .ne 6, 3) := by decide +kernel
theorem dX5_forge_38 : decode cX5_forge 38 = .ok (.bipush (-2), 2) := by decide +kernel
theorem dX5_forge_40 : decode cX5_forge 40 = .ok (.ireturn, 1) := by decide +kernel
theorem dX5_forge_41 : decode cX5_forge 41 = .ok (.aload_n 0, 1) := by decide +kernel
theorem dX5_forge_42 : decode cX5_forge 42 = .ok (.iload_n 1, 1) := by decide +kernel
theorem dX5_forge_43 : decode cX5_forge 43 = .ok (.iload_n 2, 1) := by decide +kernel
theorem dX5_forge_44 : decode cX5_forge 44 = .ok (.iload_n 3, 1) := by decide +kernel
theorem dX5_forge_45 : decode cX5_forge 45 = .ok (.invokevirtual 147, 3) := by decide +kernel
theorem dX5_forge_48 : decode cX5_forge 48 = .ok (.istore 5, 2) := by decide +kernel
theorem dX5_forge_50 : decode cX5_forge 50 = .ok (.iload 4, 2) := by decide +kernel
theorem dX5_forge_52 : decode cX5_forge 52 = .ok (.ifCond .ne 8, 3) := by decide +kernel
theorem dX5_forge_55 : decode cX5_forge 55 = .ok (.iload 5, 2) := by decide +kernel
theorem dX5_forge_57 : decode cX5_forge 57 = .ok (.goto 20, 3) := by decide +kernel
theorem dX5_forge_60 : decode cX5_forge 60 = .ok (.iload 4, 2) := by decide +kernel
theorem dX5_forge_62 : decode cX5_forge 62 = .ok (.iconst 1, 1) := by decide +kernel
theorem dX5_forge_63 : decode cX5_forge 63 = .ok (.if_icmp .ne 10, 3) := by decide +kernel
theorem dX5_forge_66 : decode cX5_forge 66 = .ok (.aload_n 0, 1) := by decide +kernel
theorem dX5_forge_67 : decode cX5_forge 67 = .ok (.getfield 137, 3) := by decide +kernel
theorem dX5_forge_70 : decode cX5_forge 70 = .ok (.goto 7, 3) := by decide +kernel
theorem dX5_forge_73 : decode cX5_forge 73 = .ok (.aload_n 0, 1) := by decide +kernel
theorem dX5_forge_74 : decode cX5_forge 74 = .ok (.getfield 140, 3) := by decide +kernel
theorem dX5_forge_77 : decode cX5_forge 77 = .ok (.ireturn, 1) := by decide +kernel
theorem dX5_read_0 : decode cX5_read 0 = .ok (.aload_n 0, 1) := by decide +kernel
theorem dX5_read_1 : decode cX5_read 1 = .ok (.getfield 98, 3) := by decide +kernel
theorem dX5_read_4 : decode cX5_read 4 = .ok (.bipush 8, 2) := by decide +kernel
theorem dX5_read_6 : decode cX5_read 6 = .ok (.if_icmp .ne 6, 3) := by decide +kernel
theorem dX5_read_9 : decode cX5_read 9 = .ok (.bipush (-4), 2) := by decide +kernel
theorem dX5_read_11 : decode cX5_read 11 = .ok (.ireturn, 1) := by decide +kernel
theorem dX5_read_12 : decode cX5_read 12 = .ok (.aload_n 0, 1) := by decide +kernel
theorem dX5_read_13 : decode cX5_read 13 = .ok (.getfield 37, 3) := by decide +kernel
theorem dX5_read_16 : decode cX5_read 16 = .ok (.aload_n 0, 1) := by decide +kernel
theorem dX5_read_17 : decode cX5_read 17 = .ok (.getfield 98, 3) := by decide +kernel
theorem dX5_read_20 : decode cX5_read 20 = .ok (.iload_n 1, 1) := by decide +kernel
theorem dX5_read_21 : decode cX5_read 21 = .ok (.iastore, 1) := by decide +kernel
theorem dX5_read_22 : decode cX5_read 22 = .ok (.aload_n 0, 1) := by decide +kernel
theorem dX5_read_23 : decode cX5_read 23 = .ok (.getfield 40, 3) := by decide +kernel
theorem dX5_read_26 : decode cX5_read 26 = .ok (.aload_n 0, 1) := by decide +kernel
theorem dX5_read_27 : decode cX5_read 27 = .ok (.getfield 98, 3) := by decide +kernel
theorem dX5_read_30 : decode cX5_read 30 = .ok (.iload_n 2, 1) := by decide +kernel
theorem dX5_read_31 : decode cX5_read 31 = .ok (.iastore, 1) := by decide +kernel
theorem dX5_read_32 : decode cX5_read 32 = .ok (.aload_n 0, 1) := by decide +kernel
theorem dX5_read_33 : decode cX5_read 33 = .ok (.getfield 43, 3) := by decide +kernel
theorem dX5_read_36 : decode cX5_read 36 = .ok (.aload_n 0, 1) := by decide +kernel
theorem dX5_read_37 : decode cX5_read 37 = .ok (.getfield 98, 3) := by decide +kernel
theorem dX5_read_40 : decode cX5_read 40 = .ok (.iload_n 3, 1) := by decide +kernel
theorem dX5_read_41 : decode cX5_read 41 = .ok (.iastore, 1) := by decide +kernel
theorem dX5_read_42 : decode cX5_read 42 = .ok (.aload_n 0, 1) := by decide +kernel
theorem dX5_read_43 : decode cX5_read 43 = .ok (.getfield 46, 3) := by decide +kernel
theorem dX5_read_46 : decode cX5_read 46 = .ok (.aload_n 0, 1) := by decide +kernel
theorem dX5_read_47 : decode cX5_read 47 = .ok (.getfield 98, 3) := by decide +kernel
theorem dX5_read_50 : decode cX5_read 50 = .ok (.iload 4, 2) := by decide +kernel
theorem dX5_read_52 : decode cX5_read 52 = .ok (.iastore, 1) := by decide +kernel
theorem dX5_read_53 : decode cX5_read 53 = .ok (.aload_n 0, 1) := by decide +kernel
theorem dX5_read_54 : decode cX5_read 54 = .ok (.dup, 1) := by decide +kernel
theorem dX5_read_55 : decode cX5_read 55 = .ok (.getfield 98, 3) := by decide +kernel
theorem dX5_read_58 : decode cX5_read 58 = .ok (.iconst 1, 1) := by decide +kernel
theorem dX5_read_59 : decode cX5_read 59 = .ok (.iadd, 1) := by decide +kernel
theorem dX5_read_60 : decode cX5_read 60 = .ok (.putfield 98, 3) := by decide +kernel
theorem dX5_read_63 : decode cX5_read 63 = .ok (.aload_n 0, 1) := by decide +kernel
theorem dX5_read_64 : decode cX5_read 64 = .ok (.getfield 98, 3) := by decide +kernel
theorem dX5_read_67 : decode cX5_read 67 = .ok (.iconst 1, 1) := by decide +kernel
theorem dX5_read_68 : decode cX5_read 68 = .ok (.isub, 1) := by decide +kernel
theorem dX5_read_69 : decode cX5_read 69 = .ok (.ireturn, 1) := by decide +kernel
set_option maxRecDepth 20000 in
theorem ggX5_reading_X5_isBoy : GoodIn wsX5_reading wsX5_isBoy := goodIn_r _ [5, 6, 24, 25, 26, 27, 28, 29, 30, 31, 32, 33, 34, 35, 36, 37, 38, 39, 40, 41, 42, 43, 44, 45, 46, 47, 48] (by decide +kernel) (by decide +kernel)
set_option maxRecDepth 20000 in
theorem gX5_reading_X5_isBoy : GoodIn wsX5_reading (wsV RX5 119 RX5 yX5_isBoy wsX5_isBoy) := goodIn_app (goodIn_of _ (by decide +kernel)) ggX5_reading_X5_isBoy
set_option maxRecDepth 20000 in
theorem ggX5_reading_X5_isMaster : GoodIn wsX5_reading wsX5_isMaster := goodIn_r _ [10, 11, 24, 25, 26, 27, 28, 29, 30, 31, 32, 33, 34, 35, 36, 37, 38, 39, 40, 41, 42, 43, 44, 45, 46, 47, 48] (by decide +kernel) (by decide +kernel)
set_option maxRecDepth 20000 in
theorem gX5_reading_X5_isMaster : GoodIn wsX5_reading (wsV RX5 125 RX5 yX5_isMaster wsX5_isMaster) := goodIn_app (goodIn_of _ (by decide +kernel)) ggX5_reading_X5_isMaster
set_option maxRecDepth 20000 in
theorem ggX5_reading_X5_within : GoodIn wsX5_reading wsX5_within := goodIn_r _ [14] (by decide +kernel) (by decide +kernel)
set_option maxRecDepth 20000 in
theorem gX5_reading_X5_within : GoodIn wsX5_reading (va_wsS RX5 61 yX5_within wsX5_within) := goodIn_app (goodIn_of _ (by decide +kernel)) ggX5_reading_X5_within
set_option maxRecDepth 20000 in
theorem ggX5_reading_X5_read : GoodIn wsX5_reading wsX5_read := goodIn_r _ [18, 19, 20, 21, 22, 23, 24, 25, 26, 27, 28, 29, 30, 31, 32, 33, 34, 35, 36, 37, 38, 39, 40, 41, 42, 43, 44, 45, 46, 47, 48] (by decide +kernel) (by decide +kernel)
set_option maxRecDepth 20000 in
theorem gX5_reading_X5_read : GoodIn wsX5_reading (wsV RX5 150 RX5 yX5_read wsX5_read) := goodIn_app (goodIn_of _ (by decide +kernel)) ggX5_reading_X5_read
theorem dX5_reading_0 : decode cX5_reading 0 = .ok (.aload_n 0, 1) := by decide +kernel
theorem dX5_reading_1 : decode cX5_reading 1 = .ok (.iload_n 1, 1) := by decide +kernel
theorem dX5_reading_2 : decode cX5_reading 2 = .ok (.invokevirtual 119, 3) := by decide +kernel
theorem dX5_reading_5 : decode cX5_reading 5 = .ok (.ifCond .eq 11, 3) := by decide +kernel
theorem dX5_reading_8 : decode cX5_reading 8 = .ok (.aload_n 0, 1) := by decide +kernel
theorem dX5_reading_9 : decode cX5_reading 9 = .ok (.iload_n 3, 1) := by decide +kernel
theorem dX5_reading_10 : decode cX5_reading 10 = .ok (.invokevirtual 125, 3) := by decide +kernel
theorem dX5_reading_13 : decode cX5_reading 13 = .ok (.ifCond .ne 5, 3) := by decide +kernel
theorem dX5_reading_16 : decode cX5_reading 16 = .ok (.iconst (-1), 1) := by decide +kernel
theorem dX5_reading_17 : decode cX5_reading 17 = .ok (.ireturn, 1) := by decide +kernel
theorem dX5_reading_18 : decode cX5_reading 18 = .ok (.iload_n 2, 1) := by decide +kernel
theorem dX5_reading_19 : decode cX5_reading 19 = .ok (.iconst 0, 1) := by decide +kernel
theorem dX5_reading_20 : decode cX5_reading 20 = .ok (.bipush 20, 2) := by decide +kernel
theorem dX5_reading_22 : decode cX5_reading 22 = .ok (.invokestatic 61, 3) := by decide +kernel
theorem dX5_reading_25 : decode cX5_reading 25 = .ok (.ifCond .eq 15, 3) := by decide +kernel
theorem dX5_reading_28 : decode cX5_reading 28 = .ok (.aload_n 0, 1) := by decide +kernel
theorem dX5_reading_29 : decode cX5_reading 29 = .ok (.iload_n 1, 1) := by decide +kernel
theorem dX5_reading_30 : decode cX5_reading 30 = .ok (.iload_n 2, 1) := by decide +kernel
theorem dX5_reading_31 : decode cX5_reading 31 = .ok (.iload_n 3, 1) := by decide +kernel
theorem dX5_reading_32 : decode cX5_reading 32 = .ok (.bipush (-9), 2) := by decide +kernel
theorem dX5_reading_34 : decode cX5_reading 34 = .ok (.invokevirtual 150, 3) := by decide +kernel
theorem dX5_reading_37 : decode cX5_reading 37 = .ok (.goto 5, 3) := by decide +kernel
theorem dX5_reading_40 : decode cX5_reading 40 = .ok (.bipush (-2), 2) := by decide +kernel
theorem dX5_reading_42 : decode cX5_reading 42 = .ok (.ireturn, 1) := by decide +kernel
set_option maxRecDepth 20000 in
theorem ggX5_exam_X5_isBoy : GoodIn wsX5_exam wsX5_isBoy := goodIn_r _ [5, 6, 24, 25, 26, 27, 28, 29, 30, 31, 32, 33, 34, 35, 36, 37, 38, 39, 40, 41, 42, 43, 44, 45, 46, 47, 48] (by decide +kernel) (by decide +kernel)
set_option maxRecDepth 20000 in
theorem gX5_exam_X5_isBoy : GoodIn wsX5_exam (wsV RX5 119 RX5 yX5_isBoy wsX5_isBoy) := goodIn_app (goodIn_of _ (by decide +kernel)) ggX5_exam_X5_isBoy
set_option maxRecDepth 20000 in
theorem ggX5_exam_X5_isMaster : GoodIn wsX5_exam wsX5_isMaster := goodIn_r _ [10, 11, 24, 25, 26, 27, 28, 29, 30, 31, 32, 33, 34, 35, 36, 37, 38, 39, 40, 41, 42, 43, 44, 45, 46, 47, 48] (by decide +kernel) (by decide +kernel)
set_option maxRecDepth 20000 in
theorem gX5_exam_X5_isMaster : GoodIn wsX5_exam (wsV RX5 125 RX5 yX5_isMaster wsX5_isMaster) := goodIn_app (goodIn_of _ (by decide +kernel)) ggX5_exam_X5_isMaster
set_option maxRecDepth 20000 in
theorem ggX5_exam_X5_within : GoodIn wsX5_exam wsX5_within := goodIn_r _ [14] (by decide +kernel) (by decide +kernel)
set_option maxRecDepth 20000 in
theorem gX5_exam_X5_within : GoodIn wsX5_exam (va_wsS RX5 61 yX5_within wsX5_within) := goodIn_app (goodIn_of _ (by decide +kernel)) ggX5_exam_X5_within
set_option maxRecDepth 20000 in
theorem ggX5_exam_X5_read : GoodIn wsX5_exam wsX5_read := goodIn_r _ [18, 19, 20, 21, 22, 23, 24, 25, 26, 27, 28, 29, 30, 31, 32, 33, 34, 35, 36, 37, 38, 39, 40, 41, 42, 43, 44, 45, 46, 47, 48] (by decide +kernel) (by decide +kernel)
set_option maxRecDepth 20000 in
theorem gX5_exam_X5_read : GoodIn wsX5_exam (wsV RX5 150 RX5 yX5_read wsX5_read) := goodIn_app (goodIn_of _ (by decide +kernel)) ggX5_exam_X5_read
theorem dX5_exam_0 : decode cX5_exam 0 = .ok (.aload_n 0, 1) := by decide +kernel
theorem dX5_exam_1 : decode cX5_exam 1 = .ok (.iload_n 1, 1) := by decide +kernel
theorem dX5_exam_2 : decode cX5_exam 2 = .ok (.invokevirtual 119, 3) := by decide +kernel
theorem dX5_exam_5 : decode cX5_exam 5 = .ok (.ifCond .eq 11, 3) := by decide +kernel
theorem dX5_exam_8 : decode cX5_exam 8 = .ok (.aload_n 0, 1) := by decide +kernel
theorem dX5_exam_9 : decode cX5_exam 9 = .ok (.iload_n 3, 1) := by decide +kernel
theorem dX5_exam_10 : decode cX5_exam 10 = .ok (.invokevirtual 125, 3) := by decide +kernel
theorem dX5_exam_13 : decode cX5_exam 13 = .ok (.ifCond .ne 5, 3) := by decide +kernel
theorem dX5_exam_16 : decode cX5_exam 16 = .ok (.iconst (-1), 1) := by decide +kernel
theorem dX5_exam_17 : decode cX5_exam 17 = .ok (.ireturn, 1) := by decide +kernel
theorem dX5_exam_18 : decode cX5_exam 18 = .ok (.iload_n 2, 1) := by decide +kernel
theorem dX5_exam_19 : decode cX5_exam 19 = .ok (.iconst 0, 1) := by decide +kernel
theorem dX5_exam_20 : decode cX5_exam 20 = .ok (.bipush 20, 2) := by decide +kernel
theorem dX5_exam_22 : decode cX5_exam 22 = .ok (.invokestatic 61, 3) := by decide +kernel
theorem dX5_exam_25 : decode cX5_exam 25 = .ok (.ifCond .eq 26, 3) := by decide +kernel
theorem dX5_exam_28 : decode cX5_exam 28 = .ok (.iload 4, 2) := by decide +kernel
theorem dX5_exam_30 : decode cX5_exam 30 = .ok (.iconst 0, 1) := by decide +kernel
theorem dX5_exam_31 : decode cX5_exam 31 = .ok (.bipush 40, 2) := by decide +kernel
theorem dX5_exam_33 : decode cX5_exam 33 = .ok (.invokestatic 61, 3) := by decide +kernel
theorem dX5_exam_36 : decode cX5_exam 36 = .ok (.ifCond .eq 15, 3) := by decide +kernel
theorem dX5_exam_39 : decode cX5_exam 39 = .ok (.aload_n 0, 1) := by decide +kernel
theorem dX5_exam_40 : decode cX5_exam 40 = .ok (.iload_n 1, 1) := by decide +kernel
theorem dX5_exam_41 : decode cX5_exam 41 = .ok (.iload_n 2, 1) := by decide +kernel
theorem dX5_exam_42 : decode cX5_exam 42 = .ok (.iload_n 3, 1) := by decide +kernel
theorem dX5_exam_43 : decode cX5_exam 43 = .ok (.iload 4, 2) := by decide +kernel
theorem dX5_exam_45 : decode cX5_exam 45 = .ok (.invokevirtual 150, 3) := by decide +kernel
theorem dX5_exam_48 : decode cX5_exam 48 = .ok (.goto 5, 3) := by decide +kernel
theorem dX5_exam_51 : decode cX5_exam 51 = .ok (.bipush (-2), 2) := by decide +kernel
theorem dX5_exam_53 : decode cX5_exam 53 = .ok (.ireturn, 1) := by decide +kernel
set_option maxRecDepth 20000 in
theorem ggX5_back_X5_within : GoodIn wsX5_back wsX5_within := goodIn_r _ [5] (by decide +kernel) (by decide +kernel)
set_option maxRecDepth 20000 in
theorem gX5_back_X5_within : GoodIn wsX5_back (va_wsS RX5 61 yX5_within wsX5_within) := goodIn_app (goodIn_of _ (by decide +kernel)) ggX5_back_X5_within
theorem dX5_back_0 : decode cX5_back 0 = .ok (.iload_n 1, 1) := by decide +kernel
theorem dX5_back_1 : decode cX5_back 1 = .ok (.iconst 0, 1) := by decide +kernel
theorem dX5_back_2 : decode cX5_back 2 = .ok (.aload_n 0, 1) := by decide +kernel
theorem dX5_back_3 : decode cX5_back 3 = .ok (.getfield 98, 3) := by decide +kernel
theorem dX5_back_6 : decode cX5_back 6 = .ok (.invokestatic 61, 3) := by decide +kernel
theorem dX5_back_9 : decode cX5_back 9 = .ok (.ifCond .ne 6, 3) := by decide +kernel
theorem dX5_back_12 : decode cX5_back 12 = .ok (.bipush (-2), 2) := by decide +kernel
theorem dX5_back_14 : decode cX5_back 14 = .ok (.ireturn, 1) := by decide +kernel
theorem dX5_back_15 : decode cX5_back 15 = .ok (.aload_n 0, 1) := by decide +kernel
theorem dX5_back_16 : decode cX5_back 16 = .ok (.dup, 1) := by decide +kernel
theorem dX5_back_17 : decode cX5_back 17 = .ok (.getfield 98, 3) := by decide +kernel
theorem dX5_back_20 : decode cX5_back 20 = .ok (.iload_n 1, 1) := by decide +kernel
theorem dX5_back_21 : decode cX5_back 21 = .ok (.isub, 1) := by decide +kernel
theorem dX5_back_22 : decode cX5_back 22 = .ok (.putfield 98, 3) := by decide +kernel
theorem dX5_back_25 : decode cX5_back 25 = .ok (.aload_n 0, 1) := by decide +kernel
theorem dX5_back_26 : decode cX5_back 26 = .ok (.getfield 98, 3) := by decide +kernel
theorem dX5_back_29 : decode cX5_back 29 = .ok (.ireturn, 1) := by decide +kernel
set_option maxRecDepth 20000 in
theorem ggX5_isSo_X5_whereOf : GoodIn wsX5_isSo wsX5_whereOf := goodIn_r _ [9, 10, 11, 12, 13, 8, 14, 15, 16, 17, 18, 19, 29, 30, 31, 32, 33, 34, 35, 36, 37, 38, 39, 40, 41, 42, 43, 44, 45, 46, 47, 48, 49, 50, 51, 52, 53] (by decide +kernel) (by decide +kernel)
set_option maxRecDepth 20000 in
theorem gX5_isSo_X5_whereOf : GoodIn wsX5_isSo (wsV RX5 131 RX5 yX5_whereOf wsX5_whereOf) := goodIn_app (goodIn_of _ (by decide +kernel)) ggX5_isSo_X5_whereOf
set_option maxRecDepth 20000 in
theorem ggX5_isSo_X5_knowsOf : GoodIn wsX5_isSo wsX5_knowsOf := goodIn_r _ [23, 10, 24, 25, 26, 8, 27, 28, 11, 12, 13, 14, 15, 16, 17, 18, 19, 29, 30, 31, 32, 33, 34, 35, 36, 37, 38, 39, 40, 41, 42, 43, 44, 45, 46, 47, 48, 49, 50, 51, 52, 53] (by decide +kernel) (by decide +kernel)
set_option maxRecDepth 20000 in
theorem gX5_isSo_X5_knowsOf : GoodIn wsX5_isSo (wsV RX5 134 RX5 yX5_knowsOf wsX5_knowsOf) := goodIn_app (goodIn_of _ (by decide +kernel)) ggX5_isSo_X5_knowsOf
theorem dX5_isSo_0 : decode cX5_isSo 0 = .ok (.aload_n 0, 1) := by decide +kernel
theorem dX5_isSo_1 : decode cX5_isSo 1 = .ok (.getfield 43, 3) := by decide +kernel
theorem dX5_isSo_4 : decode cX5_isSo 4 = .ok (.iload_n 1, 1) := by decide +kernel
theorem dX5_isSo_5 : decode cX5_isSo 5 = .ok (.iaload, 1) := by decide +kernel
theorem dX5_isSo_6 : decode cX5_isSo 6 = .ok (.istore_n 2, 1) := by decide +kernel
theorem dX5_isSo_7 : decode cX5_isSo 7 = .ok (.aload_n 0, 1) := by decide +kernel
theorem dX5_isSo_8 : decode cX5_isSo 8 = .ok (.getfield 46, 3) := by decide +kernel
theorem dX5_isSo_11 : decode cX5_isSo 11 = .ok (.iload_n 1, 1) := by decide +kernel
theorem dX5_isSo_12 : decode cX5_isSo 12 = .ok (.iaload, 1) := by decide +kernel
theorem dX5_isSo_13 : decode cX5_isSo 13 = .ok (.bipush (-9), 2) := by decide +kernel
theorem dX5_isSo_15 : decode cX5_isSo 15 = .ok (.if_icmp .ne 29, 3) := by decide +kernel
theorem dX5_isSo_18 : decode cX5_isSo 18 = .ok (.aload_n 0, 1) := by decide +kernel
theorem dX5_isSo_19 : decode cX5_isSo 19 = .ok (.aload_n 0, 1) := by decide +kernel
theorem dX5_isSo_20 : decode cX5_isSo 20 = .ok (.getfield 37, 3) := by decide +kernel
theorem dX5_isSo_23 : decode cX5_isSo 23 = .ok (.iload_n 1, 1) := by decide +kernel
theorem dX5_isSo_24 : decode cX5_isSo 24 = .ok (.iaload, 1) := by decide +kernel
theorem dX5_isSo_25 : decode cX5_isSo 25 = .ok (.aload_n 0, 1) := by decide +kernel
theorem dX5_isSo_26 : decode cX5_isSo 26 = .ok (.getfield 40, 3) := by decide +kernel
theorem dX5_isSo_29 : decode cX5_isSo 29 = .ok (.iload_n 1, 1) := by decide +kernel
theorem dX5_isSo_30 : decode cX5_isSo 30 = .ok (.iaload, 1) := by decide +kernel
theorem dX5_isSo_31 : decode cX5_isSo 31 = .ok (.invokevirtual 131, 3) := by decide +kernel
theorem dX5_isSo_34 : decode cX5_isSo 34 = .ok (.iload_n 2, 1) := by decide +kernel
theorem dX5_isSo_35 : decode cX5_isSo 35 = .ok (.if_icmp .ne 7, 3) := by decide +kernel
theorem dX5_isSo_38 : decode cX5_isSo 38 = .ok (.iconst 1, 1) := by decide +kernel
theorem dX5_isSo_39 : decode cX5_isSo 39 = .ok (.goto 4, 3) := by decide +kernel
theorem dX5_isSo_42 : decode cX5_isSo 42 = .ok (.iconst 0, 1) := by decide +kernel
theorem dX5_isSo_43 : decode cX5_isSo 43 = .ok (.ireturn, 1) := by decide +kernel
theorem dX5_isSo_44 : decode cX5_isSo 44 = .ok (.aload_n 0, 1) := by decide +kernel
theorem dX5_isSo_45 : decode cX5_isSo 45 = .ok (.aload_n 0, 1) := by decide +kernel
theorem dX5_isSo_46 : decode cX5_isSo 46 = .ok (.getfield 37, 3) := by decide +kernel
theorem dX5_isSo_49 : decode cX5_isSo 49 = .ok (.iload_n 1, 1) := by decide +kernel
theorem dX5_isSo_50 : decode cX5_isSo 50 = .ok (.iaload, 1) := by decide +kernel
theorem dX5_isSo_51 : decode cX5_isSo 51 = .ok (.iload_n 2, 1) := by decide +kernel
theorem dX5_isSo_52 : decode cX5_isSo 52 = .ok (.aload_n 0, 1) := by decide +kernel
theorem dX5_isSo_53 : decode cX5_isSo 53 = .ok (.getfield 40, 3) := by decide +kernel
theorem dX5_isSo_56 : decode cX5_isSo 56 = .ok (.iload_n 1, 1) := by decide +kernel
theorem dX5_isSo_57 : decode cX5_isSo 57 = .ok (.iaload, 1) := by decide +kernel
theorem dX5_isSo_58 : decode cX5_isSo 58 = .ok (.invokevirtual 134, 3) := by decide +kernel
theorem dX5_isSo_61 : decode cX5_isSo 61 = .ok (.aload_n 0, 1) := by decide +kernel
theorem dX5_isSo_62 : decode cX5_isSo 62 = .ok (.getfield 46, 3) := by decide +kernel
theorem dX5_isSo_65 : decode cX5_isSo 65 = .ok (.iload_n 1, 1) := by decide +kernel
theorem dX5_isSo_66 : decode cX5_isSo 66 = .ok (.iaload, 1) := by decide +kernel
theorem dX5_isSo_67 : decode cX5_isSo 67 = .ok (.if_icmp .ne 7, 3) := by decide +kernel
theorem dX5_isSo_70 : decode cX5_isSo 70 = .ok (.iconst 1, 1) := by decide +kernel
theorem dX5_isSo_71 : decode cX5_isSo 71 = .ok (.goto 4, 3) := by decide +kernel
theorem dX5_isSo_74 : decode cX5_isSo 74 = .ok (.iconst 0, 1) := by decide +kernel
theorem dX5_isSo_75 : decode cX5_isSo 75 = .ok (.ireturn, 1) := by decide +kernel
set_option maxRecDepth 20000 in
theorem ggX5_areSo_X5_isSo : GoodIn wsX5_areSo wsX5_isSo := goodIn_r _ [6, 7, 8, 9, 10, 11, 12, 13, 5, 14, 15, 16, 17, 18, 19, 20, 21, 22, 23, 24, 25, 26, 27, 28, 29, 30, 31, 32, 33, 34, 35, 36, 37, 38, 39, 40, 41, 42, 43, 44, 45, 46, 47, 48, 49, 50, 51, 52, 53, 54, 55, 56, 57, 58] (by decide +kernel) (by decide +kernel)
set_option maxRecDepth 20000 in
theorem gX5_areSo_X5_isSo : GoodIn wsX5_areSo (wsV RX5 153 RX5 yX5_isSo wsX5_isSo) := goodIn_app (goodIn_of _ (by decide +kernel)) ggX5_areSo_X5_isSo
theorem dX5_areSo_0 : decode cX5_areSo 0 = .ok (.iconst 0, 1) := by decide +kernel
theorem dX5_areSo_1 : decode cX5_areSo 1 = .ok (.istore_n 1, 1) := by decide +kernel
theorem dX5_areSo_2 : decode cX5_areSo 2 = .ok (.iload_n 1, 1) := by decide +kernel
theorem dX5_areSo_3 : decode cX5_areSo 3 = .ok (.aload_n 0, 1) := by decide +kernel
theorem dX5_areSo_4 : decode cX5_areSo 4 = .ok (.getfield 98, 3) := by decide +kernel
theorem dX5_areSo_7 : decode cX5_areSo 7 = .ok (.if_icmp .ge 19, 3) := by decide +kernel
theorem dX5_areSo_10 : decode cX5_areSo 10 = .ok (.aload_n 0, 1) := by decide +kernel
theorem dX5_areSo_11 : decode cX5_areSo 11 = .ok (.iload_n 1, 1) := by decide +kernel
theorem dX5_areSo_12 : decode cX5_areSo 12 = .ok (.invokevirtual 153, 3) := by decide +kernel
theorem dX5_areSo_15 : decode cX5_areSo 15 = .ok (.ifCond .ne 5, 3) := by decide +kernel
theorem dX5_areSo_18 : decode cX5_areSo 18 = .ok (.iconst 0, 1) := by decide +kernel
theorem dX5_areSo_19 : decode cX5_areSo 19 = .ok (.ireturn, 1) := by decide +kernel
theorem dX5_areSo_20 : decode cX5_areSo 20 = .ok (.iinc 1 1, 3) := by decide +kernel
theorem dX5_areSo_23 : decode cX5_areSo 23 = .ok (.goto (-21), 3) := by decide +kernel
theorem dX5_areSo_26 : decode cX5_areSo 26 = .ok (.iconst 1, 1) := by decide +kernel
theorem dX5_areSo_27 : decode cX5_areSo 27 = .ok (.ireturn, 1) := by decide +kernel
set_option maxRecDepth 20000 in
theorem ggX5_debts_X5_isMaster : GoodIn wsX5_debts wsX5_isMaster := goodIn_r _ [6, 7, 42, 43, 44, 45, 46, 47, 48, 49, 50, 51, 52, 53, 54, 55, 56, 57, 58, 59, 60, 61, 62, 63, 64, 65, 66] (by decide +kernel) (by decide +kernel)
set_option maxRecDepth 20000 in
theorem gX5_debts_X5_isMaster : GoodIn wsX5_debts (wsV RX5 125 RX5 yX5_isMaster wsX5_isMaster) := goodIn_app (goodIn_of _ (by decide +kernel)) ggX5_debts_X5_isMaster
set_option maxRecDepth 20000 in
theorem ggX5_debts_X5_spot : GoodIn wsX5_debts wsX5_spot := goodIn_r _ [10] (by decide +kernel) (by decide +kernel)
set_option maxRecDepth 20000 in
theorem gX5_debts_X5_spot : GoodIn wsX5_debts (va_wsS RX5 115 yX5_spot wsX5_spot) := goodIn_app (goodIn_of _ (by decide +kernel)) ggX5_debts_X5_spot
set_option maxRecDepth 20000 in
theorem ggX5_debts_X5_areSo : GoodIn wsX5_debts wsX5_areSo := goodIn_r _ [14, 15, 16, 17, 18, 5, 19, 20, 21, 22, 23, 24, 25, 26, 27, 28, 29, 30, 31, 32, 7, 1, 8, 9, 10, 33, 34, 35, 36, 37, 38, 39, 40, 41, 42, 43, 44, 45, 46, 47, 48, 49, 50, 51, 52, 53, 54, 55, 56, 57, 58, 59, 60, 61, 62, 63, 64, 65, 66] (by decide +kernel) (by decide +kernel)
set_option maxRecDepth 20000 in
theorem gX5_debts_X5_areSo : GoodIn wsX5_debts (wsV RX5 156 RX5 yX5_areSo wsX5_areSo) := goodIn_app (goodIn_of _ (by decide +kernel)) ggX5_debts_X5_areSo
theorem dX5_debts_0 : decode cX5_debts 0 = .ok (.aload_n 0, 1) := by decide +kernel
theorem dX5_debts_1 : decode cX5_debts 1 = .ok (.iload_n 1, 1) := by decide +kernel
theorem dX5_debts_2 : decode cX5_debts 2 = .ok (.invokevirtual 125, 3) := by decide +kernel
theorem dX5_debts_5 : decode cX5_debts 5 = .ok (.ifCond .eq 16, 3) := by decide +kernel
theorem dX5_debts_8 : decode cX5_debts 8 = .ok (.aload_n 0, 1) := by decide +kernel
theorem dX5_debts_9 : decode cX5_debts 9 = .ok (.iload_n 2, 1) := by decide +kernel
theorem dX5_debts_10 : decode cX5_debts 10 = .ok (.invokevirtual 125, 3) := by decide +kernel
theorem dX5_debts_13 : decode cX5_debts 13 = .ok (.ifCond .eq 8, 3) := by decide +kernel
theorem dX5_debts_16 : decode cX5_debts 16 = .ok (.iload_n 1, 1) := by decide +kernel
theorem dX5_debts_17 : decode cX5_debts 17 = .ok (.iload_n 2, 1) := by decide +kernel
theorem dX5_debts_18 : decode cX5_debts 18 = .ok (.if_icmp .ne 5, 3) := by decide +kernel
theorem dX5_debts_21 : decode cX5_debts 21 = .ok (.iconst (-1), 1) := by decide +kernel
theorem dX5_debts_22 : decode cX5_debts 22 = .ok (.ireturn, 1) := by decide +kernel
theorem dX5_debts_23 : decode cX5_debts 23 = .ok (.aload_n 0, 1) := by decide +kernel
theorem dX5_debts_24 : decode cX5_debts 24 = .ok (.getfield 19, 3) := by decide +kernel
theorem dX5_debts_27 : decode cX5_debts 27 = .ok (.iload_n 1, 1) := by decide +kernel
theorem dX5_debts_28 : decode cX5_debts 28 = .ok (.iload_n 2, 1) := by decide +kernel
theorem dX5_debts_29 : decode cX5_debts 29 = .ok (.invokestatic 115, 3) := by decide +kernel
theorem dX5_debts_32 : decode cX5_debts 32 = .ok (.iaload, 1) := by decide +kernel
theorem dX5_debts_33 : decode cX5_debts 33 = .ok (.istore_n 3, 1) := by decide +kernel
theorem dX5_debts_34 : decode cX5_debts 34 = .ok (.iconst 0, 1) := by decide +kernel
theorem dX5_debts_35 : decode cX5_debts 35 = .ok (.istore 4, 2) := by decide +kernel
theorem dX5_debts_37 : decode cX5_debts 37 = .ok (.iconst 0, 1) := by decide +kernel
theorem dX5_debts_38 : decode cX5_debts 38 = .ok (.istore 5, 2) := by decide +kernel
theorem dX5_debts_40 : decode cX5_debts 40 = .ok (.iload 5, 2) := by decide +kernel
theorem dX5_debts_42 : decode cX5_debts 42 = .ok (.bipush 9, 2) := by decide +kernel
theorem dX5_debts_44 : decode cX5_debts 44 = .ok (.if_icmp .gt 41, 3) := by decide +kernel
theorem dX5_debts_47 : decode cX5_debts 47 = .ok (.aload_n 0, 1) := by decide +kernel
theorem dX5_debts_48 : decode cX5_debts 48 = .ok (.getfield 19, 3) := by decide +kernel
theorem dX5_debts_51 : decode cX5_debts 51 = .ok (.iload_n 1, 1) := by decide +kernel
theorem dX5_debts_52 : decode cX5_debts 52 = .ok (.iload_n 2, 1) := by decide +kernel
theorem dX5_debts_53 : decode cX5_debts 53 = .ok (.invokestatic 115, 3) := by decide +kernel
theorem dX5_debts_56 : decode cX5_debts 56 = .ok (.iload 5, 2) := by decide +kernel
theorem dX5_debts_58 : decode cX5_debts 58 = .ok (.iastore, 1) := by decide +kernel
theorem dX5_debts_59 : decode cX5_debts 59 = .ok (.iload 4, 2) := by decide +kernel
theorem dX5_debts_61 : decode cX5_debts 61 = .ok (.aload_n 0, 1) := by decide +kernel
theorem dX5_debts_62 : decode cX5_debts 62 = .ok (.invokevirtual 156, 3) := by decide +kernel
theorem dX5_debts_65 : decode cX5_debts 65 = .ok (.ifCond .eq 10, 3) := by decide +kernel
theorem dX5_debts_68 : decode cX5_debts 68 = .ok (.iconst 1, 1) := by decide +kernel
theorem dX5_debts_69 : decode cX5_debts 69 = .ok (.iload 5, 2) := by decide +kernel
theorem dX5_debts_71 : decode cX5_debts 71 = .ok (.ishl, 1) := by decide +kernel
theorem dX5_debts_72 : decode cX5_debts 72 = .ok (.goto 4, 3) := by decide +kernel
theorem dX5_debts_75 : decode cX5_debts 75 = .ok (.iconst 0, 1) := by decide +kernel
theorem dX5_debts_76 : decode cX5_debts 76 = .ok (.ior, 1) := by decide +kernel
theorem dX5_debts_77 : decode cX5_debts 77 = .ok (.istore 4, 2) := by decide +kernel
theorem dX5_debts_79 : decode cX5_debts 79 = .ok (.iinc 5 1, 3) := by decide +kernel
theorem dX5_debts_82 : decode cX5_debts 82 = .ok (.goto (-42), 3) := by decide +kernel
theorem dX5_debts_85 : decode cX5_debts 85 = .ok (.aload_n 0, 1) := by decide +kernel
theorem dX5_debts_86 : decode cX5_debts 86 = .ok (.getfield 19, 3) := by decide +kernel
theorem dX5_debts_89 : decode cX5_debts 89 = .ok (.iload_n 1, 1) := by decide +kernel
theorem dX5_debts_90 : decode cX5_debts 90 = .ok (.iload_n 2, 1) := by decide +kernel
theorem dX5_debts_91 : decode cX5_debts 91 = .ok (.invokestatic 115, 3) := by decide +kernel
theorem dX5_debts_94 : decode cX5_debts 94 = .ok (.iload_n 3, 1) := by decide +kernel
theorem dX5_debts_95 : decode cX5_debts 95 = .ok (.iastore, 1) := by decide +kernel
theorem dX5_debts_96 : decode cX5_debts 96 = .ok (.iload 4, 2) := by decide +kernel
theorem dX5_debts_98 : decode cX5_debts 98 = .ok (.ireturn, 1) := by decide +kernel
set_option maxRecDepth 20000 in
theorem ggX5_bound_X5_isBoy : GoodIn wsX5_bound wsX5_isBoy := goodIn_r _ [7, 8, 43, 44, 45, 46, 47, 48, 49, 50, 51, 52, 53, 54, 55, 56, 57, 58, 59, 60, 61, 62, 63, 64, 65, 66, 67] (by decide +kernel) (by decide +kernel)
set_option maxRecDepth 20000 in
theorem gX5_bound_X5_isBoy : GoodIn wsX5_bound (wsV RX5 119 RX5 yX5_isBoy wsX5_isBoy) := goodIn_app (goodIn_of _ (by decide +kernel)) ggX5_bound_X5_isBoy
set_option maxRecDepth 20000 in
theorem ggX5_bound_X5_areSo : GoodIn wsX5_bound wsX5_areSo := goodIn_r _ [12, 13, 14, 15, 16, 6, 17, 18, 19, 20, 21, 22, 23, 24, 25, 1, 26, 27, 28, 29, 2, 30, 31, 32, 33, 34, 35, 36, 37, 38, 39, 40, 41, 42, 43, 44, 45, 46, 47, 48, 49, 50, 51, 52, 53, 54, 55, 56, 57, 58, 59, 60, 61, 62, 63, 64, 65, 66, 67] (by decide +kernel) (by decide +kernel)
set_option maxRecDepth 20000 in
theorem gX5_bound_X5_areSo : GoodIn wsX5_bound (wsV RX5 156 RX5 yX5_areSo wsX5_areSo) := goodIn_app (goodIn_of _ (by decide +kernel)) ggX5_bound_X5_areSo
theorem dX5_bound_0 : decode cX5_bound 0 = .ok (.aload_n 0, 1) := by decide +kernel
theorem dX5_bound_1 : decode cX5_bound 1 = .ok (.iload_n 1, 1) := by decide +kernel
theorem dX5_bound_2 : decode cX5_bound 2 = .ok (.invokevirtual 119, 3) := by decide +kernel
theorem dX5_bound_5 : decode cX5_bound 5 = .ok (.ifCond .ne 5, 3) := by decide +kernel
theorem dX5_bound_8 : decode cX5_bound 8 = .ok (.iconst (-1), 1) := by decide +kernel
theorem dX5_bound_9 : decode cX5_bound 9 = .ok (.ireturn, 1) := by decide +kernel
theorem dX5_bound_10 : decode cX5_bound 10 = .ok (.aload_n 0, 1) := by decide +kernel
theorem dX5_bound_11 : decode cX5_bound 11 = .ok (.getfield 25, 3) := by decide +kernel
theorem dX5_bound_14 : decode cX5_bound 14 = .ok (.iload_n 1, 1) := by decide +kernel
theorem dX5_bound_15 : decode cX5_bound 15 = .ok (.iaload, 1) := by decide +kernel
theorem dX5_bound_16 : decode cX5_bound 16 = .ok (.istore_n 2, 1) := by decide +kernel
theorem dX5_bound_17 : decode cX5_bound 17 = .ok (.iconst 0, 1) := by decide +kernel
theorem dX5_bound_18 : decode cX5_bound 18 = .ok (.istore_n 3, 1) := by decide +kernel
theorem dX5_bound_19 : decode cX5_bound 19 = .ok (.iconst 0, 1) := by decide +kernel
theorem dX5_bound_20 : decode cX5_bound 20 = .ok (.istore 4, 2) := by decide +kernel
theorem dX5_bound_22 : decode cX5_bound 22 = .ok (.iload 4, 2) := by decide +kernel
theorem dX5_bound_24 : decode cX5_bound 24 = .ok (.aload_n 0, 1) := by decide +kernel
theorem dX5_bound_25 : decode cX5_bound 25 = .ok (.getfield 65, 3) := by decide +kernel
theorem dX5_bound_28 : decode cX5_bound 28 = .ok (.if_icmp .ge 35, 3) := by decide +kernel
theorem dX5_bound_31 : decode cX5_bound 31 = .ok (.aload_n 0, 1) := by decide +kernel
theorem dX5_bound_32 : decode cX5_bound 32 = .ok (.getfield 25, 3) := by decide +kernel
theorem dX5_bound_35 : decode cX5_bound 35 = .ok (.iload_n 1, 1) := by decide +kernel
theorem dX5_bound_36 : decode cX5_bound 36 = .ok (.iload 4, 2) := by decide +kernel
theorem dX5_bound_38 : decode cX5_bound 38 = .ok (.iastore, 1) := by decide +kernel
theorem dX5_bound_39 : decode cX5_bound 39 = .ok (.iload_n 3, 1) := by decide +kernel
theorem dX5_bound_40 : decode cX5_bound 40 = .ok (.aload_n 0, 1) := by decide +kernel
theorem dX5_bound_41 : decode cX5_bound 41 = .ok (.invokevirtual 156, 3) := by decide +kernel
theorem dX5_bound_44 : decode cX5_bound 44 = .ok (.ifCond .eq 10, 3) := by decide +kernel
theorem dX5_bound_47 : decode cX5_bound 47 = .ok (.iconst 1, 1) := by decide +kernel
theorem dX5_bound_48 : decode cX5_bound 48 = .ok (.iload 4, 2) := by decide +kernel
theorem dX5_bound_50 : decode cX5_bound 50 = .ok (.ishl, 1) := by decide +kernel
theorem dX5_bound_51 : decode cX5_bound 51 = .ok (.goto 4, 3) := by decide +kernel
theorem dX5_bound_54 : decode cX5_bound 54 = .ok (.iconst 0, 1) := by decide +kernel
theorem dX5_bound_55 : decode cX5_bound 55 = .ok (.ior, 1) := by decide +kernel
theorem dX5_bound_56 : decode cX5_bound 56 = .ok (.istore_n 3, 1) := by decide +kernel
theorem dX5_bound_57 : decode cX5_bound 57 = .ok (.iinc 4 1, 3) := by decide +kernel
theorem dX5_bound_60 : decode cX5_bound 60 = .ok (.goto (-38), 3) := by decide +kernel
theorem dX5_bound_63 : decode cX5_bound 63 = .ok (.aload_n 0, 1) := by decide +kernel
theorem dX5_bound_64 : decode cX5_bound 64 = .ok (.getfield 25, 3) := by decide +kernel
theorem dX5_bound_67 : decode cX5_bound 67 = .ok (.iload_n 1, 1) := by decide +kernel
theorem dX5_bound_68 : decode cX5_bound 68 = .ok (.iload_n 2, 1) := by decide +kernel
theorem dX5_bound_69 : decode cX5_bound 69 = .ok (.iastore, 1) := by decide +kernel
theorem dX5_bound_70 : decode cX5_bound 70 = .ok (.iload_n 3, 1) := by decide +kernel
theorem dX5_bound_71 : decode cX5_bound 71 = .ok (.ireturn, 1) := by decide +kernel
set_option maxRecDepth 20000 in
theorem ggX5_kinds_X5_isBoy : GoodIn wsX5_kinds wsX5_isBoy := goodIn_r _ [6, 7, 43, 44, 45, 46, 47, 48, 49, 50, 51, 52, 53, 54, 55, 56, 57, 58, 59, 60, 61, 62, 63, 64, 65, 66, 67] (by decide +kernel) (by decide +kernel)
set_option maxRecDepth 20000 in
theorem gX5_kinds_X5_isBoy : GoodIn wsX5_kinds (wsV RX5 119 RX5 yX5_isBoy wsX5_isBoy) := goodIn_app (goodIn_of _ (by decide +kernel)) ggX5_kinds_X5_isBoy
set_option maxRecDepth 20000 in
theorem ggX5_kinds_X5_areSo : GoodIn wsX5_kinds wsX5_areSo := goodIn_r _ [11, 12, 13, 14, 15, 5, 16, 17, 18, 19, 20, 21, 22, 23, 24, 25, 26, 27, 28, 29, 30, 31, 32, 33, 34, 35, 36, 37, 38, 39, 40, 41, 42, 1, 43, 44, 45, 46, 47, 48, 49, 50, 51, 52, 53, 54, 55, 56, 57, 58, 59, 60, 61, 62, 63, 64, 65, 66, 67] (by decide +kernel) (by decide +kernel)
set_option maxRecDepth 20000 in
theorem gX5_kinds_X5_areSo : GoodIn wsX5_kinds (wsV RX5 156 RX5 yX5_areSo wsX5_areSo) := goodIn_app (goodIn_of _ (by decide +kernel)) ggX5_kinds_X5_areSo
theorem dX5_kinds_0 : decode cX5_kinds 0 = .ok (.aload_n 0, 1) := by decide +kernel
theorem dX5_kinds_1 : decode cX5_kinds 1 = .ok (.iload_n 1, 1) := by decide +kernel
theorem dX5_kinds_2 : decode cX5_kinds 2 = .ok (.invokevirtual 119, 3) := by decide +kernel
theorem dX5_kinds_5 : decode cX5_kinds 5 = .ok (.ifCond .ne 5, 3) := by decide +kernel
theorem dX5_kinds_8 : decode cX5_kinds 8 = .ok (.iconst (-1), 1) := by decide +kernel
theorem dX5_kinds_9 : decode cX5_kinds 9 = .ok (.ireturn, 1) := by decide +kernel
theorem dX5_kinds_10 : decode cX5_kinds 10 = .ok (.aload_n 0, 1) := by decide +kernel
theorem dX5_kinds_11 : decode cX5_kinds 11 = .ok (.getfield 22, 3) := by decide +kernel
theorem dX5_kinds_14 : decode cX5_kinds 14 = .ok (.iload_n 1, 1) := by decide +kernel
theorem dX5_kinds_15 : decode cX5_kinds 15 = .ok (.iaload, 1) := by decide +kernel
theorem dX5_kinds_16 : decode cX5_kinds 16 = .ok (.istore_n 2, 1) := by decide +kernel
theorem dX5_kinds_17 : decode cX5_kinds 17 = .ok (.iconst 0, 1) := by decide +kernel
theorem dX5_kinds_18 : decode cX5_kinds 18 = .ok (.istore_n 3, 1) := by decide +kernel
theorem dX5_kinds_19 : decode cX5_kinds 19 = .ok (.iconst 0, 1) := by decide +kernel
theorem dX5_kinds_20 : decode cX5_kinds 20 = .ok (.istore 4, 2) := by decide +kernel
theorem dX5_kinds_22 : decode cX5_kinds 22 = .ok (.iload 4, 2) := by decide +kernel
theorem dX5_kinds_24 : decode cX5_kinds 24 = .ok (.iconst 3, 1) := by decide +kernel
theorem dX5_kinds_25 : decode cX5_kinds 25 = .ok (.if_icmp .ge 35, 3) := by decide +kernel
theorem dX5_kinds_28 : decode cX5_kinds 28 = .ok (.aload_n 0, 1) := by decide +kernel
theorem dX5_kinds_29 : decode cX5_kinds 29 = .ok (.getfield 22, 3) := by decide +kernel
theorem dX5_kinds_32 : decode cX5_kinds 32 = .ok (.iload_n 1, 1) := by decide +kernel
theorem dX5_kinds_33 : decode cX5_kinds 33 = .ok (.iload 4, 2) := by decide +kernel
theorem dX5_kinds_35 : decode cX5_kinds 35 = .ok (.iastore, 1) := by decide +kernel
theorem dX5_kinds_36 : decode cX5_kinds 36 = .ok (.iload_n 3, 1) := by decide +kernel
theorem dX5_kinds_37 : decode cX5_kinds 37 = .ok (.aload_n 0, 1) := by decide +kernel
theorem dX5_kinds_38 : decode cX5_kinds 38 = .ok (.invokevirtual 156, 3) := by decide +kernel
theorem dX5_kinds_41 : decode cX5_kinds 41 = .ok (.ifCond .eq 10, 3) := by decide +kernel
theorem dX5_kinds_44 : decode cX5_kinds 44 = .ok (.iconst 1, 1) := by decide +kernel
theorem dX5_kinds_45 : decode cX5_kinds 45 = .ok (.iload 4, 2) := by decide +kernel
theorem dX5_kinds_47 : decode cX5_kinds 47 = .ok (.ishl, 1) := by decide +kernel
theorem dX5_kinds_48 : decode cX5_kinds 48 = .ok (.goto 4, 3) := by decide +kernel
theorem dX5_kinds_51 : decode cX5_kinds 51 = .ok (.iconst 0, 1) := by decide +kernel
theorem dX5_kinds_52 : decode cX5_kinds 52 = .ok (.ior, 1) := by decide +kernel
theorem dX5_kinds_53 : decode cX5_kinds 53 = .ok (.istore_n 3, 1) := by decide +kernel
theorem dX5_kinds_54 : decode cX5_kinds 54 = .ok (.iinc 4 1, 3) := by decide +kernel
theorem dX5_kinds_57 : decode cX5_kinds 57 = .ok (.goto (-35), 3) := by decide +kernel
theorem dX5_kinds_60 : decode cX5_kinds 60 = .ok (.aload_n 0, 1) := by decide +kernel
theorem dX5_kinds_61 : decode cX5_kinds 61 = .ok (.getfield 22, 3) := by decide +kernel
theorem dX5_kinds_64 : decode cX5_kinds 64 = .ok (.iload_n 1, 1) := by decide +kernel
theorem dX5_kinds_65 : decode cX5_kinds 65 = .ok (.iload_n 2, 1) := by decide +kernel
theorem dX5_kinds_66 : decode cX5_kinds 66 = .ok (.iastore, 1) := by decide +kernel
theorem dX5_kinds_67 : decode cX5_kinds 67 = .ok (.iload_n 3, 1) := by decide +kernel
theorem dX5_kinds_68 : decode cX5_kinds 68 = .ok (.ireturn, 1) := by decide +kernel
theorem dX5_inLeastTerms_0 : decode cX5_inLeastTerms 0 = .ok (.lload_n 0, 1) := by decide +kernel
theorem dX5_inLeastTerms_1 : decode cX5_inLeastTerms 1 = .ok (.lstore 5, 2) := by decide +kernel
theorem dX5_inLeastTerms_3 : decode cX5_inLeastTerms 3 = .ok (.lload_n 2, 1) := by decide +kernel
theorem dX5_inLeastTerms_4 : decode cX5_inLeastTerms 4 = .ok (.lstore 7, 2) := by decide +kernel
theorem dX5_inLeastTerms_6 : decode cX5_inLeastTerms 6 = .ok (.lload 7, 2) := by decide +kernel
theorem dX5_inLeastTerms_8 : decode cX5_inLeastTerms 8 = .ok (.lconst 0, 1) := by decide +kernel
theorem dX5_inLeastTerms_9 : decode cX5_inLeastTerms 9 = .ok (.lcmp, 1) := by decide +kernel
theorem dX5_inLeastTerms_10 : decode cX5_inLeastTerms 10 = .ok (.ifCond .eq 21, 3) := by decide +kernel
theorem dX5_inLeastTerms_13 : decode cX5_inLeastTerms 13 = .ok (.lload 5, 2) := by decide +kernel
theorem dX5_inLeastTerms_15 : decode cX5_inLeastTerms 15 = .ok (.lload 7, 2) := by decide +kernel
theorem dX5_inLeastTerms_17 : decode cX5_inLeastTerms 17 = .ok (.lrem, 1) := by decide +kernel
theorem dX5_inLeastTerms_18 : decode cX5_inLeastTerms 18 = .ok (.lstore 9, 2) := by decide +kernel
theorem dX5_inLeastTerms_20 : decode cX5_inLeastTerms 20 = .ok (.lload 7, 2) := by decide +kernel
theorem dX5_inLeastTerms_22 : decode cX5_inLeastTerms 22 = .ok (.lstore 5, 2) := by decide +kernel
theorem dX5_inLeastTerms_24 : decode cX5_inLeastTerms 24 = .ok (.lload 9, 2) := by decide +kernel
theorem dX5_inLeastTerms_26 : decode cX5_inLeastTerms 26 = .ok (.lstore 7, 2) := by decide +kernel
theorem dX5_inLeastTerms_28 : decode cX5_inLeastTerms 28 = .ok (.goto (-22), 3) := by decide +kernel
theorem dX5_inLeastTerms_31 : decode cX5_inLeastTerms 31 = .ok (.iload 4, 2) := by decide +kernel
theorem dX5_inLeastTerms_33 : decode cX5_inLeastTerms 33 = .ok (.ifCond .ne 10, 3) := by decide +kernel
theorem dX5_inLeastTerms_36 : decode cX5_inLeastTerms 36 = .ok (.lload_n 0, 1) := by decide +kernel
theorem dX5_inLeastTerms_37 : decode cX5_inLeastTerms 37 = .ok (.lload 5, 2) := by decide +kernel
theorem dX5_inLeastTerms_39 : decode cX5_inLeastTerms 39 = .ok (.ldiv, 1) := by decide +kernel
theorem dX5_inLeastTerms_40 : decode cX5_inLeastTerms 40 = .ok (.goto 7, 3) := by decide +kernel
theorem dX5_inLeastTerms_43 : decode cX5_inLeastTerms 43 = .ok (.lload_n 2, 1) := by decide +kernel
theorem dX5_inLeastTerms_44 : decode cX5_inLeastTerms 44 = .ok (.lload 5, 2) := by decide +kernel
theorem dX5_inLeastTerms_46 : decode cX5_inLeastTerms 46 = .ok (.ldiv, 1) := by decide +kernel
theorem dX5_inLeastTerms_47 : decode cX5_inLeastTerms 47 = .ok (.lreturn, 1) := by decide +kernel
set_option maxRecDepth 20000 in
theorem ggX5_odds_X5_isBoy : GoodIn wsX5_odds wsX5_isBoy := goodIn_r _ [10, 11, 34, 35, 36, 37, 38, 39, 40, 41, 42, 43, 44, 45, 46, 47, 48, 49, 50, 51, 52, 53, 54, 55, 56, 57, 58] (by decide +kernel) (by decide +kernel)
set_option maxRecDepth 20000 in
theorem gX5_odds_X5_isBoy : GoodIn wsX5_odds (wsV RX5 119 RX5 yX5_isBoy wsX5_isBoy) := goodIn_app (goodIn_of _ (by decide +kernel)) ggX5_odds_X5_isBoy
set_option maxRecDepth 20000 in
theorem ggX5_odds_X5_isMaster : GoodIn wsX5_odds wsX5_isMaster := goodIn_r _ [15, 2, 34, 35, 36, 37, 38, 39, 40, 41, 42, 43, 44, 45, 46, 47, 48, 49, 50, 51, 52, 53, 54, 55, 56, 57, 58] (by decide +kernel) (by decide +kernel)
set_option maxRecDepth 20000 in
theorem gX5_odds_X5_isMaster : GoodIn wsX5_odds (wsV RX5 125 RX5 yX5_isMaster wsX5_isMaster) := goodIn_app (goodIn_of _ (by decide +kernel)) ggX5_odds_X5_isMaster
set_option maxRecDepth 20000 in
theorem ggX5_odds_X5_within : GoodIn wsX5_odds wsX5_within := goodIn_r _ [18] (by decide +kernel) (by decide +kernel)
set_option maxRecDepth 20000 in
theorem gX5_odds_X5_within : GoodIn wsX5_odds (va_wsS RX5 61 yX5_within wsX5_within) := goodIn_app (goodIn_of _ (by decide +kernel)) ggX5_odds_X5_within
set_option maxRecDepth 20000 in
theorem ggX5_odds_X5_nextOf : GoodIn wsX5_odds wsX5_nextOf := goodIn_r _ [22, 2, 5, 23, 24, 9, 25, 34, 35, 36, 37, 38, 39, 40, 41, 42, 43, 44, 45, 46, 47, 48, 49, 50, 51, 52, 53, 54, 55, 56, 57, 58] (by decide +kernel) (by decide +kernel)
set_option maxRecDepth 20000 in
theorem gX5_odds_X5_nextOf : GoodIn wsX5_odds (wsV RX5 128 RX5 yX5_nextOf wsX5_nextOf) := goodIn_app (goodIn_of _ (by decide +kernel)) ggX5_odds_X5_nextOf
set_option maxRecDepth 20000 in
theorem ggX5_odds_X5_spot : GoodIn wsX5_odds wsX5_spot := goodIn_r _ [25] (by decide +kernel) (by decide +kernel)
set_option maxRecDepth 20000 in
theorem gX5_odds_X5_spot : GoodIn wsX5_odds (va_wsS RX5 115 yX5_spot wsX5_spot) := goodIn_app (goodIn_of _ (by decide +kernel)) ggX5_odds_X5_spot
set_option maxRecDepth 20000 in
theorem ggX5_odds_X5_whereOf : GoodIn wsX5_odds wsX5_whereOf := goodIn_r _ [29, 30, 19, 20, 21, 9, 22, 2, 5, 23, 24, 25, 34, 35, 36, 37, 38, 39, 40, 41, 42, 43, 44, 45, 46, 47, 48, 49, 50, 51, 52, 53, 54, 55, 56, 57, 58] (by decide +kernel) (by decide +kernel)
set_option maxRecDepth 20000 in
theorem gX5_odds_X5_whereOf : GoodIn wsX5_odds (wsV RX5 131 RX5 yX5_whereOf wsX5_whereOf) := goodIn_app (goodIn_of _ (by decide +kernel)) ggX5_odds_X5_whereOf
set_option maxRecDepth 20000 in
theorem ggX5_odds_X5_inLeastTerms : GoodIn wsX5_odds wsX5_inLeastTerms := goodIn_r _ [33] (by decide +kernel) (by decide +kernel)
set_option maxRecDepth 20000 in
theorem gX5_odds_X5_inLeastTerms : GoodIn wsX5_odds (va_wsS RX5 160 yX5_inLeastTerms wsX5_inLeastTerms) := goodIn_app (goodIn_of _ (by decide +kernel)) ggX5_odds_X5_inLeastTerms
theorem dX5_odds_0 : decode cX5_odds 0 = .ok (.aload_n 0, 1) := by decide +kernel
theorem dX5_odds_1 : decode cX5_odds 1 = .ok (.iload_n 1, 1) := by decide +kernel
theorem dX5_odds_2 : decode cX5_odds 2 = .ok (.invokevirtual 119, 3) := by decide +kernel
theorem dX5_odds_5 : decode cX5_odds 5 = .ok (.ifCond .eq 31, 3) := by decide +kernel
theorem dX5_odds_8 : decode cX5_odds 8 = .ok (.aload_n 0, 1) := by decide +kernel
theorem dX5_odds_9 : decode cX5_odds 9 = .ok (.iload_n 2, 1) := by decide +kernel
theorem dX5_odds_10 : decode cX5_odds 10 = .ok (.invokevirtual 125, 3) := by decide +kernel
theorem dX5_odds_13 : decode cX5_odds 13 = .ok (.ifCond .eq 23, 3) := by decide +kernel
theorem dX5_odds_16 : decode cX5_odds 16 = .ok (.iload_n 3, 1) := by decide +kernel
theorem dX5_odds_17 : decode cX5_odds 17 = .ok (.iconst 0, 1) := by decide +kernel
theorem dX5_odds_18 : decode cX5_odds 18 = .ok (.bipush 20, 2) := by decide +kernel
theorem dX5_odds_20 : decode cX5_odds 20 = .ok (.invokestatic 61, 3) := by decide +kernel
theorem dX5_odds_23 : decode cX5_odds 23 = .ok (.ifCond .eq 13, 3) := by decide +kernel
theorem dX5_odds_26 : decode cX5_odds 26 = .ok (.iload 4, 2) := by decide +kernel
theorem dX5_odds_28 : decode cX5_odds 28 = .ok (.iconst 0, 1) := by decide +kernel
theorem dX5_odds_29 : decode cX5_odds 29 = .ok (.iconst 1, 1) := by decide +kernel
theorem dX5_odds_30 : decode cX5_odds 30 = .ok (.invokestatic 61, 3) := by decide +kernel
theorem dX5_odds_33 : decode cX5_odds 33 = .ok (.ifCond .ne 7, 3) := by decide +kernel
theorem dX5_odds_36 : decode cX5_odds 36 = .ok (.ldc2_w 59, 3) := by decide +kernel
theorem dX5_odds_39 : decode cX5_odds 39 = .ok (.lreturn, 1) := by decide +kernel
theorem dX5_odds_40 : decode cX5_odds 40 = .ok (.iconst 0, 1) := by decide +kernel
theorem dX5_odds_41 : decode cX5_odds 41 = .ok (.istore 5, 2) := by decide +kernel
theorem dX5_odds_43 : decode cX5_odds 43 = .ok (.iload 5, 2) := by decide +kernel
theorem dX5_odds_45 : decode cX5_odds 45 = .ok (.aload_n 0, 1) := by decide +kernel
theorem dX5_odds_46 : decode cX5_odds 46 = .ok (.getfield 65, 3) := by decide +kernel
theorem dX5_odds_49 : decode cX5_odds 49 = .ok (.if_icmp .ge 46, 3) := by decide +kernel
theorem dX5_odds_52 : decode cX5_odds 52 = .ok (.aload_n 0, 1) := by decide +kernel
theorem dX5_odds_53 : decode cX5_odds 53 = .ok (.getfield 49, 3) := by decide +kernel
theorem dX5_odds_56 : decode cX5_odds 56 = .ok (.iload 5, 2) := by decide +kernel
theorem dX5_odds_58 : decode cX5_odds 58 = .ok (.aload_n 0, 1) := by decide +kernel
theorem dX5_odds_59 : decode cX5_odds 59 = .ok (.iload 5, 2) := by decide +kernel
theorem dX5_odds_61 : decode cX5_odds 61 = .ok (.invokevirtual 128, 3) := by decide +kernel
theorem dX5_odds_64 : decode cX5_odds 64 = .ok (.iastore, 1) := by decide +kernel
theorem dX5_odds_65 : decode cX5_odds 65 = .ok (.aload_n 0, 1) := by decide +kernel
theorem dX5_odds_66 : decode cX5_odds 66 = .ok (.getfield 52, 3) := by decide +kernel
theorem dX5_odds_69 : decode cX5_odds 69 = .ok (.iload 5, 2) := by decide +kernel
theorem dX5_odds_71 : decode cX5_odds 71 = .ok (.aload_n 0, 1) := by decide +kernel
theorem dX5_odds_72 : decode cX5_odds 72 = .ok (.getfield 19, 3) := by decide +kernel
theorem dX5_odds_75 : decode cX5_odds 75 = .ok (.iload 5, 2) := by decide +kernel
theorem dX5_odds_77 : decode cX5_odds 77 = .ok (.aload_n 0, 1) := by decide +kernel
theorem dX5_odds_78 : decode cX5_odds 78 = .ok (.getfield 49, 3) := by decide +kernel
theorem dX5_odds_81 : decode cX5_odds 81 = .ok (.iload 5, 2) := by decide +kernel
theorem dX5_odds_83 : decode cX5_odds 83 = .ok (.iaload, 1) := by decide +kernel
theorem dX5_odds_84 : decode cX5_odds 84 = .ok (.invokestatic 115, 3) := by decide +kernel
theorem dX5_odds_87 : decode cX5_odds 87 = .ok (.iaload, 1) := by decide +kernel
theorem dX5_odds_88 : decode cX5_odds 88 = .ok (.iastore, 1) := by decide +kernel
theorem dX5_odds_89 : decode cX5_odds 89 = .ok (.iinc 5 1, 3) := by decide +kernel
theorem dX5_odds_92 : decode cX5_odds 92 = .ok (.goto (-49), 3) := by decide +kernel
theorem dX5_odds_95 : decode cX5_odds 95 = .ok (.iconst 0, 1) := by decide +kernel
theorem dX5_odds_96 : decode cX5_odds 96 = .ok (.istore 5, 2) := by decide +kernel
theorem dX5_odds_98 : decode cX5_odds 98 = .ok (.iconst 0, 1) := by decide +kernel
theorem dX5_odds_99 : decode cX5_odds 99 = .ok (.istore 6, 2) := by decide +kernel
theorem dX5_odds_101 : decode cX5_odds 101 = .ok (.iload 6, 2) := by decide +kernel
theorem dX5_odds_103 : decode cX5_odds 103 = .ok (.iconst 1, 1) := by decide +kernel
theorem dX5_odds_104 : decode cX5_odds 104 = .ok (.aload_n 0, 1) := by decide +kernel
theorem dX5_odds_105 : decode cX5_odds 105 = .ok (.getfield 65, 3) := by decide +kernel
theorem dX5_odds_108 : decode cX5_odds 108 = .ok (.ishl, 1) := by decide +kernel
theorem dX5_odds_109 : decode cX5_odds 109 = .ok (.if_icmp .ge 86, 3) := by decide +kernel
theorem dX5_odds_112 : decode cX5_odds 112 = .ok (.iconst 0, 1) := by decide +kernel
theorem dX5_odds_113 : decode cX5_odds 113 = .ok (.istore 7, 2) := by decide +kernel
theorem dX5_odds_115 : decode cX5_odds 115 = .ok (.iload 7, 2) := by decide +kernel
theorem dX5_odds_117 : decode cX5_odds 117 = .ok (.aload_n 0, 1) := by decide +kernel
theorem dX5_odds_118 : decode cX5_odds 118 = .ok (.getfield 65, 3) := by decide +kernel
theorem dX5_odds_121 : decode cX5_odds 121 = .ok (.if_icmp .ge 48, 3) := by decide +kernel
theorem dX5_odds_124 : decode cX5_odds 124 = .ok (.aload_n 0, 1) := by decide +kernel
theorem dX5_odds_125 : decode cX5_odds 125 = .ok (.getfield 19, 3) := by decide +kernel
theorem dX5_odds_128 : decode cX5_odds 128 = .ok (.iload 7, 2) := by decide +kernel
theorem dX5_odds_130 : decode cX5_odds 130 = .ok (.aload_n 0, 1) := by decide +kernel
theorem dX5_odds_131 : decode cX5_odds 131 = .ok (.getfield 49, 3) := by decide +kernel
theorem dX5_odds_134 : decode cX5_odds 134 = .ok (.iload 7, 2) := by decide +kernel
theorem dX5_odds_136 : decode cX5_odds 136 = .ok (.iaload, 1) := by decide +kernel
theorem dX5_odds_137 : decode cX5_odds 137 = .ok (.invokestatic 115, 3) := by decide +kernel
theorem dX5_odds_140 : decode cX5_odds 140 = .ok (.iload 6, 2) := by decide +kernel
theorem dX5_odds_142 : decode cX5_odds 142 = .ok (.iload 7, 2) := by decide +kernel
theorem dX5_odds_144 : decode cX5_odds 144 = .ok (.ishr, 1) := by decide +kernel
theorem dX5_odds_145 : decode cX5_odds 145 = .ok (.iconst 1, 1) := by decide +kernel
theorem dX5_odds_146 : decode cX5_odds 146 = .ok (.iand, 1) := by decide +kernel
theorem dX5_odds_147 : decode cX5_odds 147 = .ok (.iconst 1, 1) := by decide +kernel
theorem dX5_odds_148 : decode cX5_odds 148 = .ok (.if_icmp .ne 7, 3) := by decide +kernel
theorem dX5_odds_151 : decode cX5_odds 151 = .ok (.iconst 0, 1) := by decide +kernel
theorem dX5_odds_152 : decode cX5_odds 152 = .ok (.goto 10, 3) := by decide +kernel
theorem dX5_odds_155 : decode cX5_odds 155 = .ok (.aload_n 0, 1) := by decide +kernel
theorem dX5_odds_156 : decode cX5_odds 156 = .ok (.getfield 52, 3) := by decide +kernel
theorem dX5_odds_159 : decode cX5_odds 159 = .ok (.iload 7, 2) := by decide +kernel
theorem dX5_odds_161 : decode cX5_odds 161 = .ok (.iaload, 1) := by decide +kernel
theorem dX5_odds_162 : decode cX5_odds 162 = .ok (.iastore, 1) := by decide +kernel
theorem dX5_odds_163 : decode cX5_odds 163 = .ok (.iinc 7 1, 3) := by decide +kernel
theorem dX5_odds_166 : decode cX5_odds 166 = .ok (.goto (-51), 3) := by decide +kernel
theorem dX5_odds_169 : decode cX5_odds 169 = .ok (.iload 5, 2) := by decide +kernel
theorem dX5_odds_171 : decode cX5_odds 171 = .ok (.aload_n 0, 1) := by decide +kernel
theorem dX5_odds_172 : decode cX5_odds 172 = .ok (.iload_n 1, 1) := by decide +kernel
theorem dX5_odds_173 : decode cX5_odds 173 = .ok (.iload_n 3, 1) := by decide +kernel
theorem dX5_odds_174 : decode cX5_odds 174 = .ok (.invokevirtual 131, 3) := by decide +kernel
theorem dX5_odds_177 : decode cX5_odds 177 = .ok (.iload_n 2, 1) := by decide +kernel
theorem dX5_odds_178 : decode cX5_odds 178 = .ok (.if_icmp .ne 7, 3) := by decide +kernel
theorem dX5_odds_181 : decode cX5_odds 181 = .ok (.iconst 1, 1) := by decide +kernel
theorem dX5_odds_182 : decode cX5_odds 182 = .ok (.goto 4, 3) := by decide +kernel
theorem dX5_odds_185 : decode cX5_odds 185 = .ok (.iconst 0, 1) := by decide +kernel
theorem dX5_odds_186 : decode cX5_odds 186 = .ok (.iadd, 1) := by decide +kernel
theorem dX5_odds_187 : decode cX5_odds 187 = .ok (.istore 5, 2) := by decide +kernel
theorem dX5_odds_189 : decode cX5_odds 189 = .ok (.iinc 6 1, 3) := by decide +kernel
theorem dX5_odds_192 : decode cX5_odds 192 = .ok (.goto (-91), 3) := by decide +kernel
theorem dX5_odds_195 : decode cX5_odds 195 = .ok (.iconst 0, 1) := by decide +kernel
theorem dX5_odds_196 : decode cX5_odds 196 = .ok (.istore 6, 2) := by decide +kernel
theorem dX5_odds_198 : decode cX5_odds 198 = .ok (.iload 6, 2) := by decide +kernel
theorem dX5_odds_200 : decode cX5_odds 200 = .ok (.aload_n 0, 1) := by decide +kernel
theorem dX5_odds_201 : decode cX5_odds 201 = .ok (.getfield 65, 3) := by decide +kernel
theorem dX5_odds_204 : decode cX5_odds 204 = .ok (.if_icmp .ge 33, 3) := by decide +kernel
theorem dX5_odds_207 : decode cX5_odds 207 = .ok (.aload_n 0, 1) := by decide +kernel
theorem dX5_odds_208 : decode cX5_odds 208 = .ok (.getfield 19, 3) := by decide +kernel
theorem dX5_odds_211 : decode cX5_odds 211 = .ok (.iload 6, 2) := by decide +kernel
theorem dX5_odds_213 : decode cX5_odds 213 = .ok (.aload_n 0, 1) := by decide +kernel
theorem dX5_odds_214 : decode cX5_odds 214 = .ok (.getfield 49, 3) := by decide +kernel
theorem dX5_odds_217 : decode cX5_odds 217 = .ok (.iload 6, 2) := by decide +kernel
theorem dX5_odds_219 : decode cX5_odds 219 = .ok (.iaload, 1) := by decide +kernel
theorem dX5_odds_220 : decode cX5_odds 220 = .ok (.invokestatic 115, 3) := by decide +kernel
theorem dX5_odds_223 : decode cX5_odds 223 = .ok (.aload_n 0, 1) := by decide +kernel
theorem dX5_odds_224 : decode cX5_odds 224 = .ok (.getfield 52, 3) := by decide +kernel
theorem dX5_odds_227 : decode cX5_odds 227 = .ok (.iload 6, 2) := by decide +kernel
theorem dX5_odds_229 : decode cX5_odds 229 = .ok (.iaload, 1) := by decide +kernel
theorem dX5_odds_230 : decode cX5_odds 230 = .ok (.iastore, 1) := by decide +kernel
theorem dX5_odds_231 : decode cX5_odds 231 = .ok (.iinc 6 1, 3) := by decide +kernel
theorem dX5_odds_234 : decode cX5_odds 234 = .ok (.goto (-36), 3) := by decide +kernel
theorem dX5_odds_237 : decode cX5_odds 237 = .ok (.iload 5, 2) := by decide +kernel
theorem dX5_odds_239 : decode cX5_odds 239 = .ok (.i2l, 1) := by decide +kernel
theorem dX5_odds_240 : decode cX5_odds 240 = .ok (.lconst 1, 1) := by decide +kernel
theorem dX5_odds_241 : decode cX5_odds 241 = .ok (.aload_n 0, 1) := by decide +kernel
theorem dX5_odds_242 : decode cX5_odds 242 = .ok (.getfield 65, 3) := by decide +kernel
theorem dX5_odds_245 : decode cX5_odds 245 = .ok (.lshl, 1) := by decide +kernel
theorem dX5_odds_246 : decode cX5_odds 246 = .ok (.iload 4, 2) := by decide +kernel
theorem dX5_odds_248 : decode cX5_odds 248 = .ok (.invokestatic 160, 3) := by decide +kernel
theorem dX5_odds_251 : decode cX5_odds 251 = .ok (.lreturn, 1) := by decide +kernel
set_option maxRecDepth 20000 in
theorem ggX5_sheet_X5_isSheet : GoodIn wsX5_sheet wsX5_isSheet := goodIn_r _ [8, 9, 10, 7, 11] (by decide +kernel) (by decide +kernel)
set_option maxRecDepth 20000 in
theorem gX5_sheet_X5_isSheet : GoodIn wsX5_sheet (va_wsS RX5 74 yX5_isSheet wsX5_isSheet) := goodIn_app (goodIn_of _ (by decide +kernel)) ggX5_sheet_X5_isSheet
set_option maxRecDepth 20000 in
theorem ggX5_sheet_X5_isSort : GoodIn wsX5_sheet wsX5_isSort := goodIn_r _ [14, 9, 10, 7, 11] (by decide +kernel) (by decide +kernel)
set_option maxRecDepth 20000 in
theorem gX5_sheet_X5_isSort : GoodIn wsX5_sheet (va_wsS RX5 78 yX5_isSort wsX5_isSort) := goodIn_app (goodIn_of _ (by decide +kernel)) ggX5_sheet_X5_isSort
set_option maxRecDepth 20000 in
theorem ggX5_sheet_X5_fails : GoodIn wsX5_sheet wsX5_fails := goodIn_r _ [18, 1, 19, 20, 21, 22, 23, 24, 25, 26, 27, 28, 29, 30, 31, 32, 33, 34, 35, 36, 37, 38, 39, 40, 41, 42, 43] (by decide +kernel) (by decide +kernel)
set_option maxRecDepth 20000 in
theorem gX5_sheet_X5_fails : GoodIn wsX5_sheet (wsV RX5 85 RX5 yX5_fails wsX5_fails) := goodIn_app (goodIn_of _ (by decide +kernel)) ggX5_sheet_X5_fails
theorem dX5_sheet_0 : decode cX5_sheet 0 = .ok (.aload_n 0, 1) := by decide +kernel
theorem dX5_sheet_1 : decode cX5_sheet 1 = .ok (.iconst 0, 1) := by decide +kernel
theorem dX5_sheet_2 : decode cX5_sheet 2 = .ok (.putfield 55, 3) := by decide +kernel
theorem dX5_sheet_5 : decode cX5_sheet 5 = .ok (.iload_n 1, 1) := by decide +kernel
theorem dX5_sheet_6 : decode cX5_sheet 6 = .ok (.invokestatic 74, 3) := by decide +kernel
theorem dX5_sheet_9 : decode cX5_sheet 9 = .ok (.ifCond .ne 5, 3) := by decide +kernel
theorem dX5_sheet_12 : decode cX5_sheet 12 = .ok (.iconst (-1), 1) := by decide +kernel
theorem dX5_sheet_13 : decode cX5_sheet 13 = .ok (.ireturn, 1) := by decide +kernel
theorem dX5_sheet_14 : decode cX5_sheet 14 = .ok (.iload_n 2, 1) := by decide +kernel
theorem dX5_sheet_15 : decode cX5_sheet 15 = .ok (.invokestatic 78, 3) := by decide +kernel
theorem dX5_sheet_18 : decode cX5_sheet 18 = .ok (.ifCond .eq 9, 3) := by decide +kernel
theorem dX5_sheet_21 : decode cX5_sheet 21 = .ok (.iload_n 3, 1) := by decide +kernel
theorem dX5_sheet_22 : decode cX5_sheet 22 = .ok (.bipush 60, 2) := by decide +kernel
theorem dX5_sheet_24 : decode cX5_sheet 24 = .ok (.if_icmp .le 6, 3) := by decide +kernel
theorem dX5_sheet_27 : decode cX5_sheet 27 = .ok (.bipush (-2), 2) := by decide +kernel
theorem dX5_sheet_29 : decode cX5_sheet 29 = .ok (.ireturn, 1) := by decide +kernel
theorem dX5_sheet_30 : decode cX5_sheet 30 = .ok (.iload_n 3, 1) := by decide +kernel
theorem dX5_sheet_31 : decode cX5_sheet 31 = .ok (.ifCond .ge 9, 3) := by decide +kernel
theorem dX5_sheet_34 : decode cX5_sheet 34 = .ok (.aload_n 0, 1) := by decide +kernel
theorem dX5_sheet_35 : decode cX5_sheet 35 = .ok (.iconst 4, 1) := by decide +kernel
theorem dX5_sheet_36 : decode cX5_sheet 36 = .ok (.invokevirtual 85, 3) := by decide +kernel
theorem dX5_sheet_39 : decode cX5_sheet 39 = .ok (.ireturn, 1) := by decide +kernel
theorem dX5_sheet_40 : decode cX5_sheet 40 = .ok (.aload_n 0, 1) := by decide +kernel
theorem dX5_sheet_41 : decode cX5_sheet 41 = .ok (.getfield 9, 3) := by decide +kernel
theorem dX5_sheet_44 : decode cX5_sheet 44 = .ok (.iload_n 1, 1) := by decide +kernel
theorem dX5_sheet_45 : decode cX5_sheet 45 = .ok (.iload_n 2, 1) := by decide +kernel
theorem dX5_sheet_46 : decode cX5_sheet 46 = .ok (.iastore, 1) := by decide +kernel
theorem dX5_sheet_47 : decode cX5_sheet 47 = .ok (.aload_n 0, 1) := by decide +kernel
theorem dX5_sheet_48 : decode cX5_sheet 48 = .ok (.getfield 13, 3) := by decide +kernel
theorem dX5_sheet_51 : decode cX5_sheet 51 = .ok (.iload_n 1, 1) := by decide +kernel
theorem dX5_sheet_52 : decode cX5_sheet 52 = .ok (.iload_n 3, 1) := by decide +kernel
theorem dX5_sheet_53 : decode cX5_sheet 53 = .ok (.iastore, 1) := by decide +kernel
theorem dX5_sheet_54 : decode cX5_sheet 54 = .ok (.iconst 0, 1) := by decide +kernel
theorem dX5_sheet_55 : decode cX5_sheet 55 = .ok (.istore 4, 2) := by decide +kernel
theorem dX5_sheet_57 : decode cX5_sheet 57 = .ok (.iload 4, 2) := by decide +kernel
theorem dX5_sheet_59 : decode cX5_sheet 59 = .ok (.bipush 60, 2) := by decide +kernel
theorem dX5_sheet_61 : decode cX5_sheet 61 = .ok (.if_icmp .ge 22, 3) := by decide +kernel
theorem dX5_sheet_64 : decode cX5_sheet 64 = .ok (.aload_n 0, 1) := by decide +kernel
theorem dX5_sheet_65 : decode cX5_sheet 65 = .ok (.getfield 16, 3) := by decide +kernel
theorem dX5_sheet_68 : decode cX5_sheet 68 = .ok (.bipush 60, 2) := by decide +kernel
theorem dX5_sheet_70 : decode cX5_sheet 70 = .ok (.iload_n 1, 1) := by decide +kernel
theorem dX5_sheet_71 : decode cX5_sheet 71 = .ok (.imul, 1) := by decide +kernel
theorem dX5_sheet_72 : decode cX5_sheet 72 = .ok (.iload 4, 2) := by decide +kernel
theorem dX5_sheet_74 : decode cX5_sheet 74 = .ok (.iadd, 1) := by decide +kernel
theorem dX5_sheet_75 : decode cX5_sheet 75 = .ok (.iconst 0, 1) := by decide +kernel
theorem dX5_sheet_76 : decode cX5_sheet 76 = .ok (.iastore, 1) := by decide +kernel
theorem dX5_sheet_77 : decode cX5_sheet 77 = .ok (.iinc 4 1, 3) := by decide +kernel
theorem dX5_sheet_80 : decode cX5_sheet 80 = .ok (.goto (-23), 3) := by decide +kernel
theorem dX5_sheet_83 : decode cX5_sheet 83 = .ok (.iconst 1, 1) := by decide +kernel
theorem dX5_sheet_84 : decode cX5_sheet 84 = .ok (.ireturn, 1) := by decide +kernel
set_option maxRecDepth 20000 in
theorem ggX5_lose_X5_isSheet : GoodIn wsX5_lose wsX5_isSheet := goodIn_r _ [5, 6, 7, 4, 8] (by decide +kernel) (by decide +kernel)
set_option maxRecDepth 20000 in
theorem gX5_lose_X5_isSheet : GoodIn wsX5_lose (va_wsS RX5 74 yX5_isSheet wsX5_isSheet) := goodIn_app (goodIn_of _ (by decide +kernel)) ggX5_lose_X5_isSheet
theorem dX5_lose_0 : decode cX5_lose 0 = .ok (.iload_n 1, 1) := by decide +kernel
theorem dX5_lose_1 : decode cX5_lose 1 = .ok (.invokestatic 74, 3) := by decide +kernel
theorem dX5_lose_4 : decode cX5_lose 4 = .ok (.ifCond .ne 5, 3) := by decide +kernel
theorem dX5_lose_7 : decode cX5_lose 7 = .ok (.iconst (-1), 1) := by decide +kernel
theorem dX5_lose_8 : decode cX5_lose 8 = .ok (.ireturn, 1) := by decide +kernel
theorem dX5_lose_9 : decode cX5_lose 9 = .ok (.aload_n 0, 1) := by decide +kernel
theorem dX5_lose_10 : decode cX5_lose 10 = .ok (.getfield 9, 3) := by decide +kernel
theorem dX5_lose_13 : decode cX5_lose 13 = .ok (.iload_n 1, 1) := by decide +kernel
theorem dX5_lose_14 : decode cX5_lose 14 = .ok (.iaload, 1) := by decide +kernel
theorem dX5_lose_15 : decode cX5_lose 15 = .ok (.bipush (-9), 2) := by decide +kernel
theorem dX5_lose_17 : decode cX5_lose 17 = .ok (.if_icmp .ne 7, 3) := by decide +kernel
theorem dX5_lose_20 : decode cX5_lose 20 = .ok (.iconst 0, 1) := by decide +kernel
theorem dX5_lose_21 : decode cX5_lose 21 = .ok (.goto 4, 3) := by decide +kernel
theorem dX5_lose_24 : decode cX5_lose 24 = .ok (.iconst 1, 1) := by decide +kernel
theorem dX5_lose_25 : decode cX5_lose 25 = .ok (.istore_n 2, 1) := by decide +kernel
theorem dX5_lose_26 : decode cX5_lose 26 = .ok (.aload_n 0, 1) := by decide +kernel
theorem dX5_lose_27 : decode cX5_lose 27 = .ok (.getfield 9, 3) := by decide +kernel
theorem dX5_lose_30 : decode cX5_lose 30 = .ok (.iload_n 1, 1) := by decide +kernel
theorem dX5_lose_31 : decode cX5_lose 31 = .ok (.bipush (-9), 2) := by decide +kernel
theorem dX5_lose_33 : decode cX5_lose 33 = .ok (.iastore, 1) := by decide +kernel
theorem dX5_lose_34 : decode cX5_lose 34 = .ok (.iload_n 2, 1) := by decide +kernel
theorem dX5_lose_35 : decode cX5_lose 35 = .ok (.ireturn, 1) := by decide +kernel
set_option maxRecDepth 20000 in
theorem ggX5_put_X5_isSheet : GoodIn wsX5_put wsX5_isSheet := goodIn_r _ [8, 9, 10, 7, 11] (by decide +kernel) (by decide +kernel)
set_option maxRecDepth 20000 in
theorem gX5_put_X5_isSheet : GoodIn wsX5_put (va_wsS RX5 74 yX5_isSheet wsX5_isSheet) := goodIn_app (goodIn_of _ (by decide +kernel)) ggX5_put_X5_isSheet
set_option maxRecDepth 20000 in
theorem ggX5_put_X5_fails : GoodIn wsX5_put wsX5_fails := goodIn_r _ [15, 1, 16, 17, 18, 19, 20, 21, 22, 23, 24, 25, 26, 27, 28, 29, 30, 31, 32, 33, 34, 35, 36, 37, 38, 39, 40] (by decide +kernel) (by decide +kernel)
set_option maxRecDepth 20000 in
theorem gX5_put_X5_fails : GoodIn wsX5_put (wsV RX5 85 RX5 yX5_fails wsX5_fails) := goodIn_app (goodIn_of _ (by decide +kernel)) ggX5_put_X5_fails
set_option maxRecDepth 20000 in
theorem ggX5_put_X5_within : GoodIn wsX5_put wsX5_within := goodIn_r _ [11] (by decide +kernel) (by decide +kernel)
set_option maxRecDepth 20000 in
theorem gX5_put_X5_within : GoodIn wsX5_put (va_wsS RX5 61 yX5_within wsX5_within) := goodIn_app (goodIn_of _ (by decide +kernel)) ggX5_put_X5_within
theorem dX5_put_0 : decode cX5_put 0 = .ok (.aload_n 0, 1) := by decide +kernel
theorem dX5_put_1 : decode cX5_put 1 = .ok (.iconst 0, 1) := by decide +kernel
theorem dX5_put_2 : decode cX5_put 2 = .ok (.putfield 55, 3) := by decide +kernel
theorem dX5_put_5 : decode cX5_put 5 = .ok (.iload_n 1, 1) := by decide +kernel
theorem dX5_put_6 : decode cX5_put 6 = .ok (.invokestatic 74, 3) := by decide +kernel
