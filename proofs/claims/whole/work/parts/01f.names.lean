theorem dX5_readBoy_12 : decode cX5_readBoy 12 = .ok (.aload_n 0, 1) := by decide +kernel
theorem dX5_readBoy_13 : decode cX5_readBoy 13 = .ok (.getfield 71, 3) := by decide +kernel
theorem dX5_readBoy_16 : decode cX5_readBoy 16 = .ok (.iaload, 1) := by decide +kernel
theorem dX5_readBoy_17 : decode cX5_readBoy 17 = .ok (.goto 4, 3) := by decide +kernel
theorem dX5_readBoy_20 : decode cX5_readBoy 20 = .ok (.iconst 0, 1) := by decide +kernel
theorem dX5_readBoy_21 : decode cX5_readBoy 21 = .ok (.istore_n 2, 1) := by decide +kernel
theorem dX5_readBoy_22 : decode cX5_readBoy 22 = .ok (.aload_n 0, 1) := by decide +kernel
theorem dX5_readBoy_23 : decode cX5_readBoy 23 = .ok (.getfield 31, 3) := by decide +kernel
theorem dX5_readBoy_26 : decode cX5_readBoy 26 = .ok (.aload_n 0, 1) := by decide +kernel
theorem dX5_readBoy_27 : decode cX5_readBoy 27 = .ok (.getfield 95, 3) := by decide +kernel
theorem dX5_readBoy_30 : decode cX5_readBoy 30 = .ok (.iload_n 2, 1) := by decide +kernel
theorem dX5_readBoy_31 : decode cX5_readBoy 31 = .ok (.bipush 98, 2) := by decide +kernel
theorem dX5_readBoy_33 : decode cX5_readBoy 33 = .ok (.if_icmp .ne 7, 3) := by decide +kernel
theorem dX5_readBoy_36 : decode cX5_readBoy 36 = .ok (.iconst 0, 1) := by decide +kernel
theorem dX5_readBoy_37 : decode cX5_readBoy 37 = .ok (.goto 25, 3) := by decide +kernel
theorem dX5_readBoy_40 : decode cX5_readBoy 40 = .ok (.iload_n 2, 1) := by decide +kernel
theorem dX5_readBoy_41 : decode cX5_readBoy 41 = .ok (.bipush 99, 2) := by decide +kernel
theorem dX5_readBoy_43 : decode cX5_readBoy 43 = .ok (.if_icmp .ne 7, 3) := by decide +kernel
theorem dX5_readBoy_46 : decode cX5_readBoy 46 = .ok (.iconst 1, 1) := by decide +kernel
theorem dX5_readBoy_47 : decode cX5_readBoy 47 = .ok (.goto 15, 3) := by decide +kernel
theorem dX5_readBoy_50 : decode cX5_readBoy 50 = .ok (.iload_n 2, 1) := by decide +kernel
theorem dX5_readBoy_51 : decode cX5_readBoy 51 = .ok (.bipush 100, 2) := by decide +kernel
theorem dX5_readBoy_53 : decode cX5_readBoy 53 = .ok (.if_icmp .ne 7, 3) := by decide +kernel
theorem dX5_readBoy_56 : decode cX5_readBoy 56 = .ok (.iconst 2, 1) := by decide +kernel
theorem dX5_readBoy_57 : decode cX5_readBoy 57 = .ok (.goto 5, 3) := by decide +kernel
theorem dX5_readBoy_60 : decode cX5_readBoy 60 = .ok (.bipush (-9), 2) := by decide +kernel
theorem dX5_readBoy_62 : decode cX5_readBoy 62 = .ok (.iastore, 1) := by decide +kernel
theorem dX5_readBoy_63 : decode cX5_readBoy 63 = .ok (.aload_n 0, 1) := by decide +kernel
theorem dX5_readBoy_64 : decode cX5_readBoy 64 = .ok (.getfield 31, 3) := by decide +kernel
theorem dX5_readBoy_67 : decode cX5_readBoy 67 = .ok (.aload_n 0, 1) := by decide +kernel
theorem dX5_readBoy_68 : decode cX5_readBoy 68 = .ok (.getfield 95, 3) := by decide +kernel
theorem dX5_readBoy_71 : decode cX5_readBoy 71 = .ok (.iaload, 1) := by decide +kernel
theorem dX5_readBoy_72 : decode cX5_readBoy 72 = .ok (.bipush (-9), 2) := by decide +kernel
theorem dX5_readBoy_74 : decode cX5_readBoy 74 = .ok (.if_icmp .ne 5, 3) := by decide +kernel
theorem dX5_readBoy_77 : decode cX5_readBoy 77 = .ok (.iconst 0, 1) := by decide +kernel
theorem dX5_readBoy_78 : decode cX5_readBoy 78 = .ok (.ireturn, 1) := by decide +kernel
theorem dX5_readBoy_79 : decode cX5_readBoy 79 = .ok (.aload_n 0, 1) := by decide +kernel
theorem dX5_readBoy_80 : decode cX5_readBoy 80 = .ok (.dup, 1) := by decide +kernel
theorem dX5_readBoy_81 : decode cX5_readBoy 81 = .ok (.getfield 71, 3) := by decide +kernel
theorem dX5_readBoy_84 : decode cX5_readBoy 84 = .ok (.iconst 1, 1) := by decide +kernel
theorem dX5_readBoy_85 : decode cX5_readBoy 85 = .ok (.iadd, 1) := by decide +kernel
theorem dX5_readBoy_86 : decode cX5_readBoy 86 = .ok (.putfield 71, 3) := by decide +kernel
theorem dX5_readBoy_89 : decode cX5_readBoy 89 = .ok (.aload_n 0, 1) := by decide +kernel
theorem dX5_readBoy_90 : decode cX5_readBoy 90 = .ok (.getfield 34, 3) := by decide +kernel
theorem dX5_readBoy_93 : decode cX5_readBoy 93 = .ok (.aload_n 0, 1) := by decide +kernel
theorem dX5_readBoy_94 : decode cX5_readBoy 94 = .ok (.getfield 95, 3) := by decide +kernel
theorem dX5_readBoy_97 : decode cX5_readBoy 97 = .ok (.aload_n 0, 1) := by decide +kernel
theorem dX5_readBoy_98 : decode cX5_readBoy 98 = .ok (.iload_n 1, 1) := by decide +kernel
theorem dX5_readBoy_99 : decode cX5_readBoy 99 = .ok (.iconst 0, 1) := by decide +kernel
theorem dX5_readBoy_100 : decode cX5_readBoy 100 = .ok (.aload_n 0, 1) := by decide +kernel
theorem dX5_readBoy_101 : decode cX5_readBoy 101 = .ok (.getfield 92, 3) := by decide +kernel
theorem dX5_readBoy_104 : decode cX5_readBoy 104 = .ok (.iconst 1, 1) := by decide +kernel
theorem dX5_readBoy_105 : decode cX5_readBoy 105 = .ok (.isub, 1) := by decide +kernel
theorem dX5_readBoy_106 : decode cX5_readBoy 106 = .ok (.invokevirtual 105, 3) := by decide +kernel
theorem dX5_readBoy_109 : decode cX5_readBoy 109 = .ok (.iastore, 1) := by decide +kernel
theorem dX5_readBoy_110 : decode cX5_readBoy 110 = .ok (.aload_n 0, 1) := by decide +kernel
theorem dX5_readBoy_111 : decode cX5_readBoy 111 = .ok (.dup, 1) := by decide +kernel
theorem dX5_readBoy_112 : decode cX5_readBoy 112 = .ok (.getfield 95, 3) := by decide +kernel
theorem dX5_readBoy_115 : decode cX5_readBoy 115 = .ok (.iconst 1, 1) := by decide +kernel
theorem dX5_readBoy_116 : decode cX5_readBoy 116 = .ok (.iadd, 1) := by decide +kernel
theorem dX5_readBoy_117 : decode cX5_readBoy 117 = .ok (.putfield 95, 3) := by decide +kernel
theorem dX5_readBoy_120 : decode cX5_readBoy 120 = .ok (.aload_n 0, 1) := by decide +kernel
theorem dX5_readBoy_121 : decode cX5_readBoy 121 = .ok (.getfield 34, 3) := by decide +kernel
theorem dX5_readBoy_124 : decode cX5_readBoy 124 = .ok (.aload_n 0, 1) := by decide +kernel
theorem dX5_readBoy_125 : decode cX5_readBoy 125 = .ok (.getfield 95, 3) := by decide +kernel
theorem dX5_readBoy_128 : decode cX5_readBoy 128 = .ok (.iconst 1, 1) := by decide +kernel
theorem dX5_readBoy_129 : decode cX5_readBoy 129 = .ok (.isub, 1) := by decide +kernel
theorem dX5_readBoy_130 : decode cX5_readBoy 130 = .ok (.iaload, 1) := by decide +kernel
theorem dX5_readBoy_131 : decode cX5_readBoy 131 = .ok (.bipush (-9), 2) := by decide +kernel
theorem dX5_readBoy_133 : decode cX5_readBoy 133 = .ok (.if_icmp .eq 7, 3) := by decide +kernel
theorem dX5_readBoy_136 : decode cX5_readBoy 136 = .ok (.iconst 1, 1) := by decide +kernel
theorem dX5_readBoy_137 : decode cX5_readBoy 137 = .ok (.goto 4, 3) := by decide +kernel
theorem dX5_readBoy_140 : decode cX5_readBoy 140 = .ok (.iconst 0, 1) := by decide +kernel
theorem dX5_readBoy_141 : decode cX5_readBoy 141 = .ok (.ireturn, 1) := by decide +kernel
theorem dX5_learns_0 : decode cX5_learns 0 = .ok (.aload_n 0, 1) := by decide +kernel
theorem dX5_learns_1 : decode cX5_learns 1 = .ok (.getfield 22, 3) := by decide +kernel
theorem dX5_learns_4 : decode cX5_learns 4 = .ok (.iload_n 1, 1) := by decide +kernel
theorem dX5_learns_5 : decode cX5_learns 5 = .ok (.iaload, 1) := by decide +kernel
theorem dX5_learns_6 : decode cX5_learns 6 = .ok (.ifCond .ne 8, 3) := by decide +kernel
theorem dX5_learns_9 : decode cX5_learns 9 = .ok (.bipush 9, 2) := by decide +kernel
theorem dX5_learns_11 : decode cX5_learns 11 = .ok (.goto 19, 3) := by decide +kernel
theorem dX5_learns_14 : decode cX5_learns 14 = .ok (.aload_n 0, 1) := by decide +kernel
theorem dX5_learns_15 : decode cX5_learns 15 = .ok (.getfield 22, 3) := by decide +kernel
theorem dX5_learns_18 : decode cX5_learns 18 = .ok (.iload_n 1, 1) := by decide +kernel
theorem dX5_learns_19 : decode cX5_learns 19 = .ok (.iaload, 1) := by decide +kernel
theorem dX5_learns_20 : decode cX5_learns 20 = .ok (.iconst 1, 1) := by decide +kernel
theorem dX5_learns_21 : decode cX5_learns 21 = .ok (.if_icmp .ne 8, 3) := by decide +kernel
theorem dX5_learns_24 : decode cX5_learns 24 = .ok (.bipush 12, 2) := by decide +kernel
theorem dX5_learns_26 : decode cX5_learns 26 = .ok (.goto 4, 3) := by decide +kernel
theorem dX5_learns_29 : decode cX5_learns 29 = .ok (.iconst 4, 1) := by decide +kernel
theorem dX5_learns_30 : decode cX5_learns 30 = .ok (.ireturn, 1) := by decide +kernel
set_option maxRecDepth 20000 in
theorem ggX5_ofBoy_X5_isBoy : GoodIn wsX5_ofBoy wsX5_isBoy := goodIn_r _ [7, 8, 13, 14, 15, 16, 17, 18, 19, 20, 21, 22, 23, 24, 25, 26, 27, 28, 29, 30, 31, 32, 33, 34, 35, 36, 37] (by decide +kernel) (by decide +kernel)
set_option maxRecDepth 20000 in
theorem gX5_ofBoy_X5_isBoy : GoodIn wsX5_ofBoy (wsV RX5 119 RX5 yX5_isBoy wsX5_isBoy) := goodIn_app (goodIn_of _ (by decide +kernel)) ggX5_ofBoy_X5_isBoy
set_option maxRecDepth 20000 in
theorem ggX5_ofBoy_X5_learns : GoodIn wsX5_ofBoy wsX5_learns := goodIn_r _ [12, 1, 13, 14, 15, 16, 17, 18, 19, 20, 21, 22, 23, 24, 25, 26, 27, 28, 29, 30, 31, 32, 33, 34, 35, 36, 37] (by decide +kernel) (by decide +kernel)
set_option maxRecDepth 20000 in
theorem gX5_ofBoy_X5_learns : GoodIn wsX5_ofBoy (wsV RX5 122 RX5 yX5_learns wsX5_learns) := goodIn_app (goodIn_of _ (by decide +kernel)) ggX5_ofBoy_X5_learns
theorem dX5_ofBoy_0 : decode cX5_ofBoy 0 = .ok (.aload_n 0, 1) := by decide +kernel
theorem dX5_ofBoy_1 : decode cX5_ofBoy 1 = .ok (.iload_n 1, 1) := by decide +kernel
theorem dX5_ofBoy_2 : decode cX5_ofBoy 2 = .ok (.invokevirtual 119, 3) := by decide +kernel
theorem dX5_ofBoy_5 : decode cX5_ofBoy 5 = .ok (.ifCond .ne 5, 3) := by decide +kernel
theorem dX5_ofBoy_8 : decode cX5_ofBoy 8 = .ok (.iconst (-1), 1) := by decide +kernel
theorem dX5_ofBoy_9 : decode cX5_ofBoy 9 = .ok (.ireturn, 1) := by decide +kernel
theorem dX5_ofBoy_10 : decode cX5_ofBoy 10 = .ok (.iload_n 2, 1) := by decide +kernel
theorem dX5_ofBoy_11 : decode cX5_ofBoy 11 = .ok (.ifCond .ne 12, 3) := by decide +kernel
theorem dX5_ofBoy_14 : decode cX5_ofBoy 14 = .ok (.aload_n 0, 1) := by decide +kernel
theorem dX5_ofBoy_15 : decode cX5_ofBoy 15 = .ok (.getfield 22, 3) := by decide +kernel
theorem dX5_ofBoy_18 : decode cX5_ofBoy 18 = .ok (.iload_n 1, 1) := by decide +kernel
theorem dX5_ofBoy_19 : decode cX5_ofBoy 19 = .ok (.iaload, 1) := by decide +kernel
theorem dX5_ofBoy_20 : decode cX5_ofBoy 20 = .ok (.goto 32, 3) := by decide +kernel
theorem dX5_ofBoy_23 : decode cX5_ofBoy 23 = .ok (.iload_n 2, 1) := by decide +kernel
theorem dX5_ofBoy_24 : decode cX5_ofBoy 24 = .ok (.iconst 1, 1) := by decide +kernel
theorem dX5_ofBoy_25 : decode cX5_ofBoy 25 = .ok (.if_icmp .ne 12, 3) := by decide +kernel
theorem dX5_ofBoy_28 : decode cX5_ofBoy 28 = .ok (.aload_n 0, 1) := by decide +kernel
theorem dX5_ofBoy_29 : decode cX5_ofBoy 29 = .ok (.getfield 25, 3) := by decide +kernel
theorem dX5_ofBoy_32 : decode cX5_ofBoy 32 = .ok (.iload_n 1, 1) := by decide +kernel
theorem dX5_ofBoy_33 : decode cX5_ofBoy 33 = .ok (.iaload, 1) := by decide +kernel
theorem dX5_ofBoy_34 : decode cX5_ofBoy 34 = .ok (.goto 18, 3) := by decide +kernel
theorem dX5_ofBoy_37 : decode cX5_ofBoy 37 = .ok (.iload_n 2, 1) := by decide +kernel
theorem dX5_ofBoy_38 : decode cX5_ofBoy 38 = .ok (.iconst 2, 1) := by decide +kernel
theorem dX5_ofBoy_39 : decode cX5_ofBoy 39 = .ok (.if_icmp .ne 11, 3) := by decide +kernel
theorem dX5_ofBoy_42 : decode cX5_ofBoy 42 = .ok (.aload_n 0, 1) := by decide +kernel
theorem dX5_ofBoy_43 : decode cX5_ofBoy 43 = .ok (.iload_n 1, 1) := by decide +kernel
theorem dX5_ofBoy_44 : decode cX5_ofBoy 44 = .ok (.invokevirtual 122, 3) := by decide +kernel
theorem dX5_ofBoy_47 : decode cX5_ofBoy 47 = .ok (.goto 5, 3) := by decide +kernel
theorem dX5_ofBoy_50 : decode cX5_ofBoy 50 = .ok (.bipush (-2), 2) := by decide +kernel
theorem dX5_ofBoy_52 : decode cX5_ofBoy 52 = .ok (.ireturn, 1) := by decide +kernel
set_option maxRecDepth 20000 in
theorem ggX5_owes_X5_isMaster : GoodIn wsX5_owes wsX5_isMaster := goodIn_r _ [6, 7, 11, 12, 13, 14, 15, 16, 17, 18, 19, 20, 21, 22, 23, 24, 25, 26, 27, 28, 29, 30, 31, 32, 33, 34, 35] (by decide +kernel) (by decide +kernel)
set_option maxRecDepth 20000 in
theorem gX5_owes_X5_isMaster : GoodIn wsX5_owes (wsV RX5 125 RX5 yX5_isMaster wsX5_isMaster) := goodIn_app (goodIn_of _ (by decide +kernel)) ggX5_owes_X5_isMaster
set_option maxRecDepth 20000 in
theorem ggX5_owes_X5_spot : GoodIn wsX5_owes wsX5_spot := goodIn_r _ [10] (by decide +kernel) (by decide +kernel)
set_option maxRecDepth 20000 in
theorem gX5_owes_X5_spot : GoodIn wsX5_owes (va_wsS RX5 115 yX5_spot wsX5_spot) := goodIn_app (goodIn_of _ (by decide +kernel)) ggX5_owes_X5_spot
theorem dX5_owes_0 : decode cX5_owes 0 = .ok (.aload_n 0, 1) := by decide +kernel
theorem dX5_owes_1 : decode cX5_owes 1 = .ok (.iload_n 1, 1) := by decide +kernel
theorem dX5_owes_2 : decode cX5_owes 2 = .ok (.invokevirtual 125, 3) := by decide +kernel
theorem dX5_owes_5 : decode cX5_owes 5 = .ok (.ifCond .eq 24, 3) := by decide +kernel
theorem dX5_owes_8 : decode cX5_owes 8 = .ok (.aload_n 0, 1) := by decide +kernel
theorem dX5_owes_9 : decode cX5_owes 9 = .ok (.iload_n 2, 1) := by decide +kernel
theorem dX5_owes_10 : decode cX5_owes 10 = .ok (.invokevirtual 125, 3) := by decide +kernel
theorem dX5_owes_13 : decode cX5_owes 13 = .ok (.ifCond .eq 16, 3) := by decide +kernel
theorem dX5_owes_16 : decode cX5_owes 16 = .ok (.aload_n 0, 1) := by decide +kernel
theorem dX5_owes_17 : decode cX5_owes 17 = .ok (.getfield 19, 3) := by decide +kernel
theorem dX5_owes_20 : decode cX5_owes 20 = .ok (.iload_n 1, 1) := by decide +kernel
theorem dX5_owes_21 : decode cX5_owes 21 = .ok (.iload_n 2, 1) := by decide +kernel
theorem dX5_owes_22 : decode cX5_owes 22 = .ok (.invokestatic 115, 3) := by decide +kernel
theorem dX5_owes_25 : decode cX5_owes 25 = .ok (.iaload, 1) := by decide +kernel
theorem dX5_owes_26 : decode cX5_owes 26 = .ok (.goto 4, 3) := by decide +kernel
theorem dX5_owes_29 : decode cX5_owes 29 = .ok (.iconst (-1), 1) := by decide +kernel
theorem dX5_owes_30 : decode cX5_owes 30 = .ok (.ireturn, 1) := by decide +kernel
set_option maxRecDepth 20000 in
theorem ggX5_owe_X5_isMaster : GoodIn wsX5_owe wsX5_isMaster := goodIn_r _ [6, 7, 14, 15, 16, 17, 18, 19, 20, 21, 22, 23, 24, 25, 26, 27, 28, 29, 30, 31, 32, 33, 34, 35, 36, 37, 38] (by decide +kernel) (by decide +kernel)
set_option maxRecDepth 20000 in
theorem gX5_owe_X5_isMaster : GoodIn wsX5_owe (wsV RX5 125 RX5 yX5_isMaster wsX5_isMaster) := goodIn_app (goodIn_of _ (by decide +kernel)) ggX5_owe_X5_isMaster
set_option maxRecDepth 20000 in
theorem ggX5_owe_X5_within : GoodIn wsX5_owe wsX5_within := goodIn_r _ [10] (by decide +kernel) (by decide +kernel)
set_option maxRecDepth 20000 in
theorem gX5_owe_X5_within : GoodIn wsX5_owe (va_wsS RX5 61 yX5_within wsX5_within) := goodIn_app (goodIn_of _ (by decide +kernel)) ggX5_owe_X5_within
set_option maxRecDepth 20000 in
theorem ggX5_owe_X5_spot : GoodIn wsX5_owe wsX5_spot := goodIn_r _ [13] (by decide +kernel) (by decide +kernel)
set_option maxRecDepth 20000 in
theorem gX5_owe_X5_spot : GoodIn wsX5_owe (va_wsS RX5 115 yX5_spot wsX5_spot) := goodIn_app (goodIn_of _ (by decide +kernel)) ggX5_owe_X5_spot
theorem dX5_owe_0 : decode cX5_owe 0 = .ok (.aload_n 0, 1) := by decide +kernel
theorem dX5_owe_1 : decode cX5_owe 1 = .ok (.iload_n 1, 1) := by decide +kernel
theorem dX5_owe_2 : decode cX5_owe 2 = .ok (.invokevirtual 125, 3) := by decide +kernel
theorem dX5_owe_5 : decode cX5_owe 5 = .ok (.ifCond .eq 16, 3) := by decide +kernel
theorem dX5_owe_8 : decode cX5_owe 8 = .ok (.aload_n 0, 1) := by decide +kernel
theorem dX5_owe_9 : decode cX5_owe 9 = .ok (.iload_n 2, 1) := by decide +kernel
theorem dX5_owe_10 : decode cX5_owe 10 = .ok (.invokevirtual 125, 3) := by decide +kernel
theorem dX5_owe_13 : decode cX5_owe 13 = .ok (.ifCond .eq 8, 3) := by decide +kernel
theorem dX5_owe_16 : decode cX5_owe 16 = .ok (.iload_n 1, 1) := by decide +kernel
theorem dX5_owe_17 : decode cX5_owe 17 = .ok (.iload_n 2, 1) := by decide +kernel
theorem dX5_owe_18 : decode cX5_owe 18 = .ok (.if_icmp .ne 5, 3) := by decide +kernel
theorem dX5_owe_21 : decode cX5_owe 21 = .ok (.iconst (-1), 1) := by decide +kernel
theorem dX5_owe_22 : decode cX5_owe 22 = .ok (.ireturn, 1) := by decide +kernel
theorem dX5_owe_23 : decode cX5_owe 23 = .ok (.iload_n 3, 1) := by decide +kernel
theorem dX5_owe_24 : decode cX5_owe 24 = .ok (.iconst 0, 1) := by decide +kernel
theorem dX5_owe_25 : decode cX5_owe 25 = .ok (.bipush 9, 2) := by decide +kernel
theorem dX5_owe_27 : decode cX5_owe 27 = .ok (.invokestatic 61, 3) := by decide +kernel
theorem dX5_owe_30 : decode cX5_owe 30 = .ok (.ifCond .ne 6, 3) := by decide +kernel
theorem dX5_owe_33 : decode cX5_owe 33 = .ok (.bipush (-2), 2) := by decide +kernel
theorem dX5_owe_35 : decode cX5_owe 35 = .ok (.ireturn, 1) := by decide +kernel
theorem dX5_owe_36 : decode cX5_owe 36 = .ok (.aload_n 0, 1) := by decide +kernel
theorem dX5_owe_37 : decode cX5_owe 37 = .ok (.getfield 19, 3) := by decide +kernel
theorem dX5_owe_40 : decode cX5_owe 40 = .ok (.iload_n 1, 1) := by decide +kernel
theorem dX5_owe_41 : decode cX5_owe 41 = .ok (.iload_n 2, 1) := by decide +kernel
theorem dX5_owe_42 : decode cX5_owe 42 = .ok (.invokestatic 115, 3) := by decide +kernel
theorem dX5_owe_45 : decode cX5_owe 45 = .ok (.iaload, 1) := by decide +kernel
theorem dX5_owe_46 : decode cX5_owe 46 = .ok (.istore 4, 2) := by decide +kernel
theorem dX5_owe_48 : decode cX5_owe 48 = .ok (.aload_n 0, 1) := by decide +kernel
theorem dX5_owe_49 : decode cX5_owe 49 = .ok (.getfield 19, 3) := by decide +kernel
theorem dX5_owe_52 : decode cX5_owe 52 = .ok (.iload_n 1, 1) := by decide +kernel
theorem dX5_owe_53 : decode cX5_owe 53 = .ok (.iload_n 2, 1) := by decide +kernel
theorem dX5_owe_54 : decode cX5_owe 54 = .ok (.invokestatic 115, 3) := by decide +kernel
theorem dX5_owe_57 : decode cX5_owe 57 = .ok (.iload_n 3, 1) := by decide +kernel
theorem dX5_owe_58 : decode cX5_owe 58 = .ok (.iastore, 1) := by decide +kernel
theorem dX5_owe_59 : decode cX5_owe 59 = .ok (.iload 4, 2) := by decide +kernel
theorem dX5_owe_61 : decode cX5_owe 61 = .ok (.ireturn, 1) := by decide +kernel
set_option maxRecDepth 20000 in
theorem ggX5_bind_X5_isBoy : GoodIn wsX5_bind wsX5_isBoy := goodIn_r _ [6, 7, 13, 14, 15, 16, 17, 18, 19, 20, 21, 22, 23, 24, 25, 26, 27, 28, 29, 30, 31, 32, 33, 34, 35, 36, 37] (by decide +kernel) (by decide +kernel)
set_option maxRecDepth 20000 in
theorem gX5_bind_X5_isBoy : GoodIn wsX5_bind (wsV RX5 119 RX5 yX5_isBoy wsX5_isBoy) := goodIn_app (goodIn_of _ (by decide +kernel)) ggX5_bind_X5_isBoy
set_option maxRecDepth 20000 in
theorem ggX5_bind_X5_isMaster : GoodIn wsX5_bind wsX5_isMaster := goodIn_r _ [11, 12, 13, 14, 15, 16, 17, 18, 19, 20, 21, 22, 23, 24, 25, 26, 27, 28, 29, 30, 31, 32, 33, 34, 35, 36, 37] (by decide +kernel) (by decide +kernel)
set_option maxRecDepth 20000 in
theorem gX5_bind_X5_isMaster : GoodIn wsX5_bind (wsV RX5 125 RX5 yX5_isMaster wsX5_isMaster) := goodIn_app (goodIn_of _ (by decide +kernel)) ggX5_bind_X5_isMaster
theorem dX5_bind_0 : decode cX5_bind 0 = .ok (.aload_n 0, 1) := by decide +kernel
theorem dX5_bind_1 : decode cX5_bind 1 = .ok (.iload_n 1, 1) := by decide +kernel
theorem dX5_bind_2 : decode cX5_bind 2 = .ok (.invokevirtual 119, 3) := by decide +kernel
theorem dX5_bind_5 : decode cX5_bind 5 = .ok (.ifCond .eq 11, 3) := by decide +kernel
theorem dX5_bind_8 : decode cX5_bind 8 = .ok (.aload_n 0, 1) := by decide +kernel
theorem dX5_bind_9 : decode cX5_bind 9 = .ok (.iload_n 2, 1) := by decide +kernel
theorem dX5_bind_10 : decode cX5_bind 10 = .ok (.invokevirtual 125, 3) := by decide +kernel
theorem dX5_bind_13 : decode cX5_bind 13 = .ok (.ifCond .ne 5, 3) := by decide +kernel
theorem dX5_bind_16 : decode cX5_bind 16 = .ok (.iconst (-1), 1) := by decide +kernel
theorem dX5_bind_17 : decode cX5_bind 17 = .ok (.ireturn, 1) := by decide +kernel
theorem dX5_bind_18 : decode cX5_bind 18 = .ok (.aload_n 0, 1) := by decide +kernel
theorem dX5_bind_19 : decode cX5_bind 19 = .ok (.getfield 25, 3) := by decide +kernel
theorem dX5_bind_22 : decode cX5_bind 22 = .ok (.iload_n 1, 1) := by decide +kernel
theorem dX5_bind_23 : decode cX5_bind 23 = .ok (.iaload, 1) := by decide +kernel
theorem dX5_bind_24 : decode cX5_bind 24 = .ok (.istore_n 3, 1) := by decide +kernel
theorem dX5_bind_25 : decode cX5_bind 25 = .ok (.aload_n 0, 1) := by decide +kernel
theorem dX5_bind_26 : decode cX5_bind 26 = .ok (.getfield 25, 3) := by decide +kernel
theorem dX5_bind_29 : decode cX5_bind 29 = .ok (.iload_n 1, 1) := by decide +kernel
theorem dX5_bind_30 : decode cX5_bind 30 = .ok (.iload_n 2, 1) := by decide +kernel
theorem dX5_bind_31 : decode cX5_bind 31 = .ok (.iastore, 1) := by decide +kernel
theorem dX5_bind_32 : decode cX5_bind 32 = .ok (.iload_n 3, 1) := by decide +kernel
theorem dX5_bind_33 : decode cX5_bind 33 = .ok (.ireturn, 1) := by decide +kernel
set_option maxRecDepth 20000 in
theorem ggX5_nextOf_X5_spot : GoodIn wsX5_nextOf wsX5_spot := goodIn_r _ [6] (by decide +kernel) (by decide +kernel)
set_option maxRecDepth 20000 in
theorem gX5_nextOf_X5_spot : GoodIn wsX5_nextOf (va_wsS RX5 115 yX5_spot wsX5_spot) := goodIn_app (goodIn_of _ (by decide +kernel)) ggX5_nextOf_X5_spot
theorem dX5_nextOf_0 : decode cX5_nextOf 0 = .ok (.iload_n 1, 1) := by decide +kernel
theorem dX5_nextOf_1 : decode cX5_nextOf 1 = .ok (.istore_n 2, 1) := by decide +kernel
theorem dX5_nextOf_2 : decode cX5_nextOf 2 = .ok (.iconst 0, 1) := by decide +kernel
theorem dX5_nextOf_3 : decode cX5_nextOf 3 = .ok (.istore_n 3, 1) := by decide +kernel
theorem dX5_nextOf_4 : decode cX5_nextOf 4 = .ok (.iload_n 3, 1) := by decide +kernel
theorem dX5_nextOf_5 : decode cX5_nextOf 5 = .ok (.aload_n 0, 1) := by decide +kernel
theorem dX5_nextOf_6 : decode cX5_nextOf 6 = .ok (.getfield 65, 3) := by decide +kernel
theorem dX5_nextOf_9 : decode cX5_nextOf 9 = .ok (.if_icmp .ge 38, 3) := by decide +kernel
theorem dX5_nextOf_12 : decode cX5_nextOf 12 = .ok (.aload_n 0, 1) := by decide +kernel
theorem dX5_nextOf_13 : decode cX5_nextOf 13 = .ok (.getfield 19, 3) := by decide +kernel
theorem dX5_nextOf_16 : decode cX5_nextOf 16 = .ok (.iload_n 1, 1) := by decide +kernel
theorem dX5_nextOf_17 : decode cX5_nextOf 17 = .ok (.iload_n 3, 1) := by decide +kernel
theorem dX5_nextOf_18 : decode cX5_nextOf 18 = .ok (.invokestatic 115, 3) := by decide +kernel
theorem dX5_nextOf_21 : decode cX5_nextOf 21 = .ok (.iaload, 1) := by decide +kernel
theorem dX5_nextOf_22 : decode cX5_nextOf 22 = .ok (.aload_n 0, 1) := by decide +kernel
theorem dX5_nextOf_23 : decode cX5_nextOf 23 = .ok (.getfield 19, 3) := by decide +kernel
theorem dX5_nextOf_26 : decode cX5_nextOf 26 = .ok (.iload_n 1, 1) := by decide +kernel
theorem dX5_nextOf_27 : decode cX5_nextOf 27 = .ok (.iload_n 2, 1) := by decide +kernel
theorem dX5_nextOf_28 : decode cX5_nextOf 28 = .ok (.invokestatic 115, 3) := by decide +kernel
theorem dX5_nextOf_31 : decode cX5_nextOf 31 = .ok (.iaload, 1) := by decide +kernel
theorem dX5_nextOf_32 : decode cX5_nextOf 32 = .ok (.if_icmp .le 7, 3) := by decide +kernel
theorem dX5_nextOf_35 : decode cX5_nextOf 35 = .ok (.iload_n 3, 1) := by decide +kernel
theorem dX5_nextOf_36 : decode cX5_nextOf 36 = .ok (.goto 4, 3) := by decide +kernel
theorem dX5_nextOf_39 : decode cX5_nextOf 39 = .ok (.iload_n 2, 1) := by decide +kernel
theorem dX5_nextOf_40 : decode cX5_nextOf 40 = .ok (.istore_n 2, 1) := by decide +kernel
theorem dX5_nextOf_41 : decode cX5_nextOf 41 = .ok (.iinc 3 1, 3) := by decide +kernel
theorem dX5_nextOf_44 : decode cX5_nextOf 44 = .ok (.goto (-40), 3) := by decide +kernel
theorem dX5_nextOf_47 : decode cX5_nextOf 47 = .ok (.iload_n 2, 1) := by decide +kernel
theorem dX5_nextOf_48 : decode cX5_nextOf 48 = .ok (.ireturn, 1) := by decide +kernel
set_option maxRecDepth 20000 in
theorem ggX5_next_X5_isMaster : GoodIn wsX5_next wsX5_isMaster := goodIn_r _ [5, 6, 15, 16, 17, 18, 19, 20, 21, 22, 23, 24, 25, 26, 27, 28, 29, 30, 31, 32, 33, 34, 35, 36, 37, 38, 39] (by decide +kernel) (by decide +kernel)
set_option maxRecDepth 20000 in
theorem gX5_next_X5_isMaster : GoodIn wsX5_next (wsV RX5 125 RX5 yX5_isMaster wsX5_isMaster) := goodIn_app (goodIn_of _ (by decide +kernel)) ggX5_next_X5_isMaster
set_option maxRecDepth 20000 in
theorem ggX5_next_X5_nextOf : GoodIn wsX5_next wsX5_nextOf := goodIn_r _ [10, 6, 11, 12, 13, 4, 14, 15, 16, 17, 18, 19, 20, 21, 22, 23, 24, 25, 26, 27, 28, 29, 30, 31, 32, 33, 34, 35, 36, 37, 38, 39] (by decide +kernel) (by decide +kernel)
set_option maxRecDepth 20000 in
theorem gX5_next_X5_nextOf : GoodIn wsX5_next (wsV RX5 128 RX5 yX5_nextOf wsX5_nextOf) := goodIn_app (goodIn_of _ (by decide +kernel)) ggX5_next_X5_nextOf
theorem dX5_next_0 : decode cX5_next 0 = .ok (.aload_n 0, 1) := by decide +kernel
theorem dX5_next_1 : decode cX5_next 1 = .ok (.iload_n 1, 1) := by decide +kernel
theorem dX5_next_2 : decode cX5_next 2 = .ok (.invokevirtual 125, 3) := by decide +kernel
theorem dX5_next_5 : decode cX5_next 5 = .ok (.ifCond .eq 11, 3) := by decide +kernel
theorem dX5_next_8 : decode cX5_next 8 = .ok (.aload_n 0, 1) := by decide +kernel
theorem dX5_next_9 : decode cX5_next 9 = .ok (.iload_n 1, 1) := by decide +kernel
theorem dX5_next_10 : decode cX5_next 10 = .ok (.invokevirtual 128, 3) := by decide +kernel
theorem dX5_next_13 : decode cX5_next 13 = .ok (.goto 4, 3) := by decide +kernel
theorem dX5_next_16 : decode cX5_next 16 = .ok (.iconst (-1), 1) := by decide +kernel
theorem dX5_next_17 : decode cX5_next 17 = .ok (.ireturn, 1) := by decide +kernel
set_option maxRecDepth 20000 in
theorem ggX5_whereOf_X5_nextOf : GoodIn wsX5_whereOf wsX5_nextOf := goodIn_r _ [6, 7, 8, 9, 10, 5, 11, 12, 13, 14, 15, 16, 17, 18, 19, 20, 21, 22, 23, 24, 25, 26, 27, 28, 29, 30, 31, 32, 33, 34, 35, 36] (by decide +kernel) (by decide +kernel)
set_option maxRecDepth 20000 in
theorem gX5_whereOf_X5_nextOf : GoodIn wsX5_whereOf (wsV RX5 128 RX5 yX5_nextOf wsX5_nextOf) := goodIn_app (goodIn_of _ (by decide +kernel)) ggX5_whereOf_X5_nextOf
theorem dX5_whereOf_0 : decode cX5_whereOf 0 = .ok (.aload_n 0, 1) := by decide +kernel
theorem dX5_whereOf_1 : decode cX5_whereOf 1 = .ok (.getfield 25, 3) := by decide +kernel
theorem dX5_whereOf_4 : decode cX5_whereOf 4 = .ok (.iload_n 1, 1) := by decide +kernel
theorem dX5_whereOf_5 : decode cX5_whereOf 5 = .ok (.iaload, 1) := by decide +kernel
theorem dX5_whereOf_6 : decode cX5_whereOf 6 = .ok (.istore_n 3, 1) := by decide +kernel
theorem dX5_whereOf_7 : decode cX5_whereOf 7 = .ok (.iconst 0, 1) := by decide +kernel
theorem dX5_whereOf_8 : decode cX5_whereOf 8 = .ok (.istore 4, 2) := by decide +kernel
theorem dX5_whereOf_10 : decode cX5_whereOf 10 = .ok (.iload 4, 2) := by decide +kernel
theorem dX5_whereOf_12 : decode cX5_whereOf 12 = .ok (.iload_n 2, 1) := by decide +kernel
theorem dX5_whereOf_13 : decode cX5_whereOf 13 = .ok (.if_icmp .ge 15, 3) := by decide +kernel
theorem dX5_whereOf_16 : decode cX5_whereOf 16 = .ok (.aload_n 0, 1) := by decide +kernel
theorem dX5_whereOf_17 : decode cX5_whereOf 17 = .ok (.iload_n 3, 1) := by decide +kernel
theorem dX5_whereOf_18 : decode cX5_whereOf 18 = .ok (.invokevirtual 128, 3) := by decide +kernel
theorem dX5_whereOf_21 : decode cX5_whereOf 21 = .ok (.istore_n 3, 1) := by decide +kernel
theorem dX5_whereOf_22 : decode cX5_whereOf 22 = .ok (.iinc 4 1, 3) := by decide +kernel
theorem dX5_whereOf_25 : decode cX5_whereOf 25 = .ok (.goto (-15), 3) := by decide +kernel
theorem dX5_whereOf_28 : decode cX5_whereOf 28 = .ok (.iload_n 3, 1) := by decide +kernel
theorem dX5_whereOf_29 : decode cX5_whereOf 29 = .ok (.ireturn, 1) := by decide +kernel
set_option maxRecDepth 20000 in
theorem ggX5_knowsOf_X5_learns : GoodIn wsX5_knowsOf wsX5_learns := goodIn_r _ [6, 7, 17, 18, 19, 20, 21, 22, 23, 24, 25, 26, 27, 28, 29, 30, 31, 32, 33, 34, 35, 36, 37, 38, 39, 40, 41] (by decide +kernel) (by decide +kernel)
set_option maxRecDepth 20000 in
theorem gX5_knowsOf_X5_learns : GoodIn wsX5_knowsOf (wsV RX5 122 RX5 yX5_learns wsX5_learns) := goodIn_app (goodIn_of _ (by decide +kernel)) ggX5_knowsOf_X5_learns
set_option maxRecDepth 20000 in
theorem ggX5_knowsOf_X5_nextOf : GoodIn wsX5_knowsOf wsX5_nextOf := goodIn_r _ [11, 12, 13, 14, 15, 5, 16, 17, 18, 19, 20, 21, 22, 23, 24, 25, 26, 27, 28, 29, 30, 31, 32, 33, 34, 35, 36, 37, 38, 39, 40, 41] (by decide +kernel) (by decide +kernel)
set_option maxRecDepth 20000 in
theorem gX5_knowsOf_X5_nextOf : GoodIn wsX5_knowsOf (wsV RX5 128 RX5 yX5_nextOf wsX5_nextOf) := goodIn_app (goodIn_of _ (by decide +kernel)) ggX5_knowsOf_X5_nextOf
theorem dX5_knowsOf_0 : decode cX5_knowsOf 0 = .ok (.aload_n 0, 1) := by decide +kernel
theorem dX5_knowsOf_1 : decode cX5_knowsOf 1 = .ok (.getfield 25, 3) := by decide +kernel
theorem dX5_knowsOf_4 : decode cX5_knowsOf 4 = .ok (.iload_n 1, 1) := by decide +kernel
theorem dX5_knowsOf_5 : decode cX5_knowsOf 5 = .ok (.iaload, 1) := by decide +kernel
theorem dX5_knowsOf_6 : decode cX5_knowsOf 6 = .ok (.istore 4, 2) := by decide +kernel
theorem dX5_knowsOf_8 : decode cX5_knowsOf 8 = .ok (.iconst 0, 1) := by decide +kernel
theorem dX5_knowsOf_9 : decode cX5_knowsOf 9 = .ok (.istore 5, 2) := by decide +kernel
theorem dX5_knowsOf_11 : decode cX5_knowsOf 11 = .ok (.iconst 0, 1) := by decide +kernel
theorem dX5_knowsOf_12 : decode cX5_knowsOf 12 = .ok (.istore 6, 2) := by decide +kernel
theorem dX5_knowsOf_14 : decode cX5_knowsOf 14 = .ok (.iload 6, 2) := by decide +kernel
theorem dX5_knowsOf_16 : decode cX5_knowsOf 16 = .ok (.iload_n 3, 1) := by decide +kernel
theorem dX5_knowsOf_17 : decode cX5_knowsOf 17 = .ok (.if_icmp .ge 46, 3) := by decide +kernel
theorem dX5_knowsOf_20 : decode cX5_knowsOf 20 = .ok (.iload 5, 2) := by decide +kernel
theorem dX5_knowsOf_22 : decode cX5_knowsOf 22 = .ok (.iload 5, 2) := by decide +kernel
theorem dX5_knowsOf_24 : decode cX5_knowsOf 24 = .ok (.iconst 3, 1) := by decide +kernel
theorem dX5_knowsOf_25 : decode cX5_knowsOf 25 = .ok (.idiv, 1) := by decide +kernel
theorem dX5_knowsOf_26 : decode cX5_knowsOf 26 = .ok (.isub, 1) := by decide +kernel
theorem dX5_knowsOf_27 : decode cX5_knowsOf 27 = .ok (.istore 5, 2) := by decide +kernel
theorem dX5_knowsOf_29 : decode cX5_knowsOf 29 = .ok (.iload 5, 2) := by decide +kernel
theorem dX5_knowsOf_31 : decode cX5_knowsOf 31 = .ok (.iload 4, 2) := by decide +kernel
theorem dX5_knowsOf_33 : decode cX5_knowsOf 33 = .ok (.iload_n 2, 1) := by decide +kernel
theorem dX5_knowsOf_34 : decode cX5_knowsOf 34 = .ok (.if_icmp .ne 11, 3) := by decide +kernel
theorem dX5_knowsOf_37 : decode cX5_knowsOf 37 = .ok (.aload_n 0, 1) := by decide +kernel
theorem dX5_knowsOf_38 : decode cX5_knowsOf 38 = .ok (.iload_n 1, 1) := by decide +kernel
theorem dX5_knowsOf_39 : decode cX5_knowsOf 39 = .ok (.invokevirtual 122, 3) := by decide +kernel
theorem dX5_knowsOf_42 : decode cX5_knowsOf 42 = .ok (.goto 4, 3) := by decide +kernel
theorem dX5_knowsOf_45 : decode cX5_knowsOf 45 = .ok (.iconst 0, 1) := by decide +kernel
theorem dX5_knowsOf_46 : decode cX5_knowsOf 46 = .ok (.iadd, 1) := by decide +kernel
theorem dX5_knowsOf_47 : decode cX5_knowsOf 47 = .ok (.istore 5, 2) := by decide +kernel
theorem dX5_knowsOf_49 : decode cX5_knowsOf 49 = .ok (.aload_n 0, 1) := by decide +kernel
theorem dX5_knowsOf_50 : decode cX5_knowsOf 50 = .ok (.iload 4, 2) := by decide +kernel
theorem dX5_knowsOf_52 : decode cX5_knowsOf 52 = .ok (.invokevirtual 128, 3) := by decide +kernel
theorem dX5_knowsOf_55 : decode cX5_knowsOf 55 = .ok (.istore 4, 2) := by decide +kernel
theorem dX5_knowsOf_57 : decode cX5_knowsOf 57 = .ok (.iinc 6 1, 3) := by decide +kernel
theorem dX5_knowsOf_60 : decode cX5_knowsOf 60 = .ok (.goto (-46), 3) := by decide +kernel
theorem dX5_knowsOf_63 : decode cX5_knowsOf 63 = .ok (.iload 5, 2) := by decide +kernel
theorem dX5_knowsOf_65 : decode cX5_knowsOf 65 = .ok (.ireturn, 1) := by decide +kernel
set_option maxRecDepth 20000 in
theorem ggX5_where_X5_isBoy : GoodIn wsX5_where wsX5_isBoy := goodIn_r _ [5, 6, 24, 25, 26, 27, 28, 29, 30, 31, 32, 33, 34, 35, 36, 37, 38, 39, 40, 41, 42, 43, 44, 45, 46, 47, 48] (by decide +kernel) (by decide +kernel)
set_option maxRecDepth 20000 in
theorem gX5_where_X5_isBoy : GoodIn wsX5_where (wsV RX5 119 RX5 yX5_isBoy wsX5_isBoy) := goodIn_app (goodIn_of _ (by decide +kernel)) ggX5_where_X5_isBoy
set_option maxRecDepth 20000 in
theorem ggX5_where_X5_within : GoodIn wsX5_where wsX5_within := goodIn_r _ [9] (by decide +kernel) (by decide +kernel)
set_option maxRecDepth 20000 in
theorem gX5_where_X5_within : GoodIn wsX5_where (va_wsS RX5 61 yX5_within wsX5_within) := goodIn_app (goodIn_of _ (by decide +kernel)) ggX5_where_X5_within
set_option maxRecDepth 20000 in
theorem ggX5_where_X5_whereOf : GoodIn wsX5_where wsX5_whereOf := goodIn_r _ [13, 14, 15, 16, 17, 4, 18, 19, 20, 21, 22, 23, 24, 25, 26, 27, 28, 29, 30, 31, 32, 33, 34, 35, 36, 37, 38, 39, 40, 41, 42, 43, 44, 45, 46, 47, 48] (by decide +kernel) (by decide +kernel)
set_option maxRecDepth 20000 in
theorem gX5_where_X5_whereOf : GoodIn wsX5_where (wsV RX5 131 RX5 yX5_whereOf wsX5_whereOf) := goodIn_app (goodIn_of _ (by decide +kernel)) ggX5_where_X5_whereOf
theorem dX5_where_0 : decode cX5_where 0 = .ok (.aload_n 0, 1) := by decide +kernel
theorem dX5_where_1 : decode cX5_where 1 = .ok (.iload_n 1, 1) := by decide +kernel
theorem dX5_where_2 : decode cX5_where 2 = .ok (.invokevirtual 119, 3) := by decide +kernel
theorem dX5_where_5 : decode cX5_where 5 = .ok (.ifCond .ne 5, 3) := by decide +kernel
theorem dX5_where_8 : decode cX5_where 8 = .ok (.iconst (-1), 1) := by decide +kernel
theorem dX5_where_9 : decode cX5_where 9 = .ok (.ireturn, 1) := by decide +kernel
theorem dX5_where_10 : decode cX5_where 10 = .ok (.iload_n 2, 1) := by decide +kernel
theorem dX5_where_11 : decode cX5_where 11 = .ok (.iconst 0, 1) := by decide +kernel
theorem dX5_where_12 : decode cX5_where 12 = .ok (.bipush 60, 2) := by decide +kernel
theorem dX5_where_14 : decode cX5_where 14 = .ok (.invokestatic 61, 3) := by decide +kernel
theorem dX5_where_17 : decode cX5_where 17 = .ok (.ifCond .eq 12, 3) := by decide +kernel
theorem dX5_where_20 : decode cX5_where 20 = .ok (.aload_n 0, 1) := by decide +kernel
theorem dX5_where_21 : decode cX5_where 21 = .ok (.iload_n 1, 1) := by decide +kernel
theorem dX5_where_22 : decode cX5_where 22 = .ok (.iload_n 2, 1) := by decide +kernel
theorem dX5_where_23 : decode cX5_where 23 = .ok (.invokevirtual 131, 3) := by decide +kernel
theorem dX5_where_26 : decode cX5_where 26 = .ok (.goto 5, 3) := by decide +kernel
theorem dX5_where_29 : decode cX5_where 29 = .ok (.bipush (-2), 2) := by decide +kernel
theorem dX5_where_31 : decode cX5_where 31 = .ok (.ireturn, 1) := by decide +kernel
set_option maxRecDepth 20000 in
theorem ggX5_knows_X5_isBoy : GoodIn wsX5_knows wsX5_isBoy := goodIn_r _ [5, 6, 33, 34, 35, 36, 37, 38, 39, 40, 41, 42, 43, 44, 45, 46, 47, 48, 49, 50, 51, 52, 53, 54, 55, 56, 57] (by decide +kernel) (by decide +kernel)
set_option maxRecDepth 20000 in
theorem gX5_knows_X5_isBoy : GoodIn wsX5_knows (wsV RX5 119 RX5 yX5_isBoy wsX5_isBoy) := goodIn_app (goodIn_of _ (by decide +kernel)) ggX5_knows_X5_isBoy
set_option maxRecDepth 20000 in
theorem ggX5_knows_X5_isMaster : GoodIn wsX5_knows wsX5_isMaster := goodIn_r _ [10, 11, 33, 34, 35, 36, 37, 38, 39, 40, 41, 42, 43, 44, 45, 46, 47, 48, 49, 50, 51, 52, 53, 54, 55, 56, 57] (by decide +kernel) (by decide +kernel)
set_option maxRecDepth 20000 in
theorem gX5_knows_X5_isMaster : GoodIn wsX5_knows (wsV RX5 125 RX5 yX5_isMaster wsX5_isMaster) := goodIn_app (goodIn_of _ (by decide +kernel)) ggX5_knows_X5_isMaster
set_option maxRecDepth 20000 in
theorem ggX5_knows_X5_within : GoodIn wsX5_knows wsX5_within := goodIn_r _ [14] (by decide +kernel) (by decide +kernel)
set_option maxRecDepth 20000 in
theorem gX5_knows_X5_within : GoodIn wsX5_knows (va_wsS RX5 61 yX5_within wsX5_within) := goodIn_app (goodIn_of _ (by decide +kernel)) ggX5_knows_X5_within
set_option maxRecDepth 20000 in
theorem ggX5_knows_X5_knowsOf : GoodIn wsX5_knows wsX5_knowsOf := goodIn_r _ [18, 19, 20, 21, 22, 4, 23, 24, 25, 26, 27, 28, 11, 29, 30, 31, 32, 33, 34, 35, 36, 37, 38, 39, 40, 41, 42, 43, 44, 45, 46, 47, 48, 49, 50, 51, 52, 53, 54, 55, 56, 57] (by decide +kernel) (by decide +kernel)
set_option maxRecDepth 20000 in
theorem gX5_knows_X5_knowsOf : GoodIn wsX5_knows (wsV RX5 134 RX5 yX5_knowsOf wsX5_knowsOf) := goodIn_app (goodIn_of _ (by decide +kernel)) ggX5_knows_X5_knowsOf
theorem dX5_knows_0 : decode cX5_knows 0 = .ok (.aload_n 0, 1) := by decide +kernel
theorem dX5_knows_1 : decode cX5_knows 1 = .ok (.iload_n 1, 1) := by decide +kernel
theorem dX5_knows_2 : decode cX5_knows 2 = .ok (.invokevirtual 119, 3) := by decide +kernel
theorem dX5_knows_5 : decode cX5_knows 5 = .ok (.ifCond .eq 11, 3) := by decide +kernel
theorem dX5_knows_8 : decode cX5_knows 8 = .ok (.aload_n 0, 1) := by decide +kernel
theorem dX5_knows_9 : decode cX5_knows 9 = .ok (.iload_n 2, 1) := by decide +kernel
theorem dX5_knows_10 : decode cX5_knows 10 = .ok (.invokevirtual 125, 3) := by decide +kernel
theorem dX5_knows_13 : decode cX5_knows 13 = .ok (.ifCond .ne 5, 3) := by decide +kernel
theorem dX5_knows_16 : decode cX5_knows 16 = .ok (.iconst (-1), 1) := by decide +kernel
theorem dX5_knows_17 : decode cX5_knows 17 = .ok (.ireturn, 1) := by decide +kernel
theorem dX5_knows_18 : decode cX5_knows 18 = .ok (.iload_n 3, 1) := by decide +kernel
theorem dX5_knows_19 : decode cX5_knows 19 = .ok (.iconst 0, 1) := by decide +kernel
theorem dX5_knows_20 : decode cX5_knows 20 = .ok (.bipush 60, 2) := by decide +kernel
theorem dX5_knows_22 : decode cX5_knows 22 = .ok (.invokestatic 61, 3) := by decide +kernel
theorem dX5_knows_25 : decode cX5_knows 25 = .ok (.ifCond .eq 13, 3) := by decide +kernel
theorem dX5_knows_28 : decode cX5_knows 28 = .ok (.aload_n 0, 1) := by decide +kernel
theorem dX5_knows_29 : decode cX5_knows 29 = .ok (.iload_n 1, 1) := by decide +kernel
theorem dX5_knows_30 : decode cX5_knows 30 = .ok (.iload_n 2, 1) := by decide +kernel
theorem dX5_knows_31 : decode cX5_knows 31 = .ok (.iload_n 3, 1) := by decide +kernel
theorem dX5_knows_32 : decode cX5_knows 32 = .ok (.invokevirtual 134, 3) := by decide +kernel
theorem dX5_knows_35 : decode cX5_knows 35 = .ok (.goto 5, 3) := by decide +kernel
theorem dX5_knows_38 : decode cX5_knows 38 = .ok (.bipush (-2), 2) := by decide +kernel
theorem dX5_knows_40 : decode cX5_knows 40 = .ok (.ireturn, 1) := by decide +kernel
set_option maxRecDepth 20000 in
theorem ggX5_able_X5_within : GoodIn wsX5_able wsX5_within := goodIn_r _ [6] (by decide +kernel) (by decide +kernel)
set_option maxRecDepth 20000 in
theorem gX5_able_X5_within : GoodIn wsX5_able (va_wsS RX5 61 yX5_within wsX5_within) := goodIn_app (goodIn_of _ (by decide +kernel)) ggX5_able_X5_within
set_option maxRecDepth 20000 in
theorem ggX5_able_X5_whereOf : GoodIn wsX5_able wsX5_whereOf := goodIn_r _ [10, 11, 12, 13, 14, 5, 15, 1, 16, 17, 18, 19, 29, 30, 31, 32, 33, 34, 35, 36, 37, 38, 39, 40, 41, 42, 43, 44, 45, 46, 47, 48, 49, 50, 51, 52, 53] (by decide +kernel) (by decide +kernel)
set_option maxRecDepth 20000 in
theorem gX5_able_X5_whereOf : GoodIn wsX5_able (wsV RX5 131 RX5 yX5_whereOf wsX5_whereOf) := goodIn_app (goodIn_of _ (by decide +kernel)) ggX5_able_X5_whereOf
set_option maxRecDepth 20000 in
theorem ggX5_able_X5_knowsOf : GoodIn wsX5_able wsX5_knowsOf := goodIn_r _ [23, 11, 24, 25, 26, 5, 27, 28, 12, 13, 14, 15, 1, 16, 17, 18, 19, 29, 30, 31, 32, 33, 34, 35, 36, 37, 38, 39, 40, 41, 42, 43, 44, 45, 46, 47, 48, 49, 50, 51, 52, 53] (by decide +kernel) (by decide +kernel)
set_option maxRecDepth 20000 in
theorem gX5_able_X5_knowsOf : GoodIn wsX5_able (wsV RX5 134 RX5 yX5_knowsOf wsX5_knowsOf) := goodIn_app (goodIn_of _ (by decide +kernel)) ggX5_able_X5_knowsOf
theorem dX5_able_0 : decode cX5_able 0 = .ok (.iload_n 1, 1) := by decide +kernel
theorem dX5_able_1 : decode cX5_able 1 = .ok (.iconst 0, 1) := by decide +kernel
theorem dX5_able_2 : decode cX5_able 2 = .ok (.bipush 60, 2) := by decide +kernel
theorem dX5_able_4 : decode cX5_able 4 = .ok (.invokestatic 61, 3) := by decide +kernel
theorem dX5_able_7 : decode cX5_able 7 = .ok (.ifCond .ne 6, 3) := by decide +kernel
theorem dX5_able_10 : decode cX5_able 10 = .ok (.bipush (-2), 2) := by decide +kernel
theorem dX5_able_12 : decode cX5_able 12 = .ok (.ireturn, 1) := by decide +kernel
theorem dX5_able_13 : decode cX5_able 13 = .ok (.aload_n 0, 1) := by decide +kernel
theorem dX5_able_14 : decode cX5_able 14 = .ok (.getfield 65, 3) := by decide +kernel
theorem dX5_able_17 : decode cX5_able 17 = .ok (.ifCond .ne 6, 3) := by decide +kernel
theorem dX5_able_20 : decode cX5_able 20 = .ok (.bipush (-3), 2) := by decide +kernel
theorem dX5_able_22 : decode cX5_able 22 = .ok (.ireturn, 1) := by decide +kernel
theorem dX5_able_23 : decode cX5_able 23 = .ok (.iconst 0, 1) := by decide +kernel
theorem dX5_able_24 : decode cX5_able 24 = .ok (.istore_n 2, 1) := by decide +kernel
theorem dX5_able_25 : decode cX5_able 25 = .ok (.iconst 0, 1) := by decide +kernel
theorem dX5_able_26 : decode cX5_able 26 = .ok (.istore_n 3, 1) := by decide +kernel
theorem dX5_able_27 : decode cX5_able 27 = .ok (.iload_n 3, 1) := by decide +kernel
theorem dX5_able_28 : decode cX5_able 28 = .ok (.aload_n 0, 1) := by decide +kernel
theorem dX5_able_29 : decode cX5_able 29 = .ok (.getfield 68, 3) := by decide +kernel
theorem dX5_able_32 : decode cX5_able 32 = .ok (.if_icmp .ge 41, 3) := by decide +kernel
theorem dX5_able_35 : decode cX5_able 35 = .ok (.aload_n 0, 1) := by decide +kernel
theorem dX5_able_36 : decode cX5_able 36 = .ok (.iload_n 3, 1) := by decide +kernel
theorem dX5_able_37 : decode cX5_able 37 = .ok (.iload_n 1, 1) := by decide +kernel
theorem dX5_able_38 : decode cX5_able 38 = .ok (.invokevirtual 131, 3) := by decide +kernel
theorem dX5_able_41 : decode cX5_able 41 = .ok (.istore 4, 2) := by decide +kernel
theorem dX5_able_43 : decode cX5_able 43 = .ok (.iload_n 2, 1) := by decide +kernel
theorem dX5_able_44 : decode cX5_able 44 = .ok (.aload_n 0, 1) := by decide +kernel
theorem dX5_able_45 : decode cX5_able 45 = .ok (.iload_n 3, 1) := by decide +kernel
theorem dX5_able_46 : decode cX5_able 46 = .ok (.iload 4, 2) := by decide +kernel
theorem dX5_able_48 : decode cX5_able 48 = .ok (.iload_n 1, 1) := by decide +kernel
theorem dX5_able_49 : decode cX5_able 49 = .ok (.invokevirtual 134, 3) := by decide +kernel
theorem dX5_able_52 : decode cX5_able 52 = .ok (.bipush 9, 2) := by decide +kernel
theorem dX5_able_54 : decode cX5_able 54 = .ok (.if_icmp .lt 10, 3) := by decide +kernel
theorem dX5_able_57 : decode cX5_able 57 = .ok (.iconst 1, 1) := by decide +kernel
theorem dX5_able_58 : decode cX5_able 58 = .ok (.iload 4, 2) := by decide +kernel
theorem dX5_able_60 : decode cX5_able 60 = .ok (.ishl, 1) := by decide +kernel
theorem dX5_able_61 : decode cX5_able 61 = .ok (.goto 4, 3) := by decide +kernel
theorem dX5_able_64 : decode cX5_able 64 = .ok (.iconst 0, 1) := by decide +kernel
theorem dX5_able_65 : decode cX5_able 65 = .ok (.ior, 1) := by decide +kernel
theorem dX5_able_66 : decode cX5_able 66 = .ok (.istore_n 2, 1) := by decide +kernel
theorem dX5_able_67 : decode cX5_able 67 = .ok (.iinc 3 1, 3) := by decide +kernel
theorem dX5_able_70 : decode cX5_able 70 = .ok (.goto (-43), 3) := by decide +kernel
theorem dX5_able_73 : decode cX5_able 73 = .ok (.iload_n 2, 1) := by decide +kernel
theorem dX5_able_74 : decode cX5_able 74 = .ok (.ireturn, 1) := by decide +kernel
set_option maxRecDepth 20000 in
theorem ggX5_ring_X5_isMaster : GoodIn wsX5_ring wsX5_isMaster := goodIn_r _ [6, 1, 15, 16, 17, 18, 19, 20, 21, 22, 23, 24, 25, 26, 27, 28, 29, 30, 31, 32, 33, 34, 35, 36, 37, 38, 39] (by decide +kernel) (by decide +kernel)
set_option maxRecDepth 20000 in
theorem gX5_ring_X5_isMaster : GoodIn wsX5_ring (wsV RX5 125 RX5 yX5_isMaster wsX5_isMaster) := goodIn_app (goodIn_of _ (by decide +kernel)) ggX5_ring_X5_isMaster
set_option maxRecDepth 20000 in
theorem ggX5_ring_X5_nextOf : GoodIn wsX5_ring wsX5_nextOf := goodIn_r _ [10, 1, 11, 12, 13, 5, 14, 15, 16, 17, 18, 19, 20, 21, 22, 23, 24, 25, 26, 27, 28, 29, 30, 31, 32, 33, 34, 35, 36, 37, 38, 39] (by decide +kernel) (by decide +kernel)
set_option maxRecDepth 20000 in
theorem gX5_ring_X5_nextOf : GoodIn wsX5_ring (wsV RX5 128 RX5 yX5_nextOf wsX5_nextOf) := goodIn_app (goodIn_of _ (by decide +kernel)) ggX5_ring_X5_nextOf
theorem dX5_ring_0 : decode cX5_ring 0 = .ok (.aload_n 0, 1) := by decide +kernel
theorem dX5_ring_1 : decode cX5_ring 1 = .ok (.iload_n 1, 1) := by decide +kernel
theorem dX5_ring_2 : decode cX5_ring 2 = .ok (.invokevirtual 125, 3) := by decide +kernel
theorem dX5_ring_5 : decode cX5_ring 5 = .ok (.ifCond .ne 5, 3) := by decide +kernel
theorem dX5_ring_8 : decode cX5_ring 8 = .ok (.iconst (-1), 1) := by decide +kernel
theorem dX5_ring_9 : decode cX5_ring 9 = .ok (.ireturn, 1) := by decide +kernel
theorem dX5_ring_10 : decode cX5_ring 10 = .ok (.iload_n 1, 1) := by decide +kernel
theorem dX5_ring_11 : decode cX5_ring 11 = .ok (.istore_n 2, 1) := by decide +kernel
theorem dX5_ring_12 : decode cX5_ring 12 = .ok (.iconst 0, 1) := by decide +kernel
theorem dX5_ring_13 : decode cX5_ring 13 = .ok (.istore_n 3, 1) := by decide +kernel
theorem dX5_ring_14 : decode cX5_ring 14 = .ok (.iload_n 3, 1) := by decide +kernel
theorem dX5_ring_15 : decode cX5_ring 15 = .ok (.aload_n 0, 1) := by decide +kernel
theorem dX5_ring_16 : decode cX5_ring 16 = .ok (.getfield 65, 3) := by decide +kernel
theorem dX5_ring_19 : decode cX5_ring 19 = .ok (.if_icmp .ge 15, 3) := by decide +kernel
theorem dX5_ring_22 : decode cX5_ring 22 = .ok (.aload_n 0, 1) := by decide +kernel
theorem dX5_ring_23 : decode cX5_ring 23 = .ok (.iload_n 2, 1) := by decide +kernel
theorem dX5_ring_24 : decode cX5_ring 24 = .ok (.invokevirtual 128, 3) := by decide +kernel
theorem dX5_ring_27 : decode cX5_ring 27 = .ok (.istore_n 2, 1) := by decide +kernel
theorem dX5_ring_28 : decode cX5_ring 28 = .ok (.iinc 3 1, 3) := by decide +kernel
theorem dX5_ring_31 : decode cX5_ring 31 = .ok (.goto (-17), 3) := by decide +kernel
theorem dX5_ring_34 : decode cX5_ring 34 = .ok (.iconst 0, 1) := by decide +kernel
theorem dX5_ring_35 : decode cX5_ring 35 = .ok (.istore_n 3, 1) := by decide +kernel
theorem dX5_ring_36 : decode cX5_ring 36 = .ok (.iload_n 3, 1) := by decide +kernel
theorem dX5_ring_37 : decode cX5_ring 37 = .ok (.iload_n 2, 1) := by decide +kernel
theorem dX5_ring_38 : decode cX5_ring 38 = .ok (.ishr, 1) := by decide +kernel
theorem dX5_ring_39 : decode cX5_ring 39 = .ok (.iconst 1, 1) := by decide +kernel
theorem dX5_ring_40 : decode cX5_ring 40 = .ok (.iand, 1) := by decide +kernel
theorem dX5_ring_41 : decode cX5_ring 41 = .ok (.ifCond .ne 18, 3) := by decide +kernel
theorem dX5_ring_44 : decode cX5_ring 44 = .ok (.iload_n 3, 1) := by decide +kernel
theorem dX5_ring_45 : decode cX5_ring 45 = .ok (.iconst 1, 1) := by decide +kernel
theorem dX5_ring_46 : decode cX5_ring 46 = .ok (.iload_n 2, 1) := by decide +kernel
theorem dX5_ring_47 : decode cX5_ring 47 = .ok (.ishl, 1) := by decide +kernel
theorem dX5_ring_48 : decode cX5_ring 48 = .ok (.ior, 1) := by decide +kernel
theorem dX5_ring_49 : decode cX5_ring 49 = .ok (.istore_n 3, 1) := by decide +kernel
theorem dX5_ring_50 : decode cX5_ring 50 = .ok (.aload_n 0, 1) := by decide +kernel
theorem dX5_ring_51 : decode cX5_ring 51 = .ok (.iload_n 2, 1) := by decide +kernel
theorem dX5_ring_52 : decode cX5_ring 52 = .ok (.invokevirtual 128, 3) := by decide +kernel
theorem dX5_ring_55 : decode cX5_ring 55 = .ok (.istore_n 2, 1) := by decide +kernel
theorem dX5_ring_56 : decode cX5_ring 56 = .ok (.goto (-20), 3) := by decide +kernel
theorem dX5_ring_59 : decode cX5_ring 59 = .ok (.iload_n 3, 1) := by decide +kernel
theorem dX5_ring_60 : decode cX5_ring 60 = .ok (.ireturn, 1) := by decide +kernel
set_option maxRecDepth 20000 in
theorem ggX5_home_X5_isBoy : GoodIn wsX5_home wsX5_isBoy := goodIn_r _ [7, 8, 17, 18, 19, 20, 21, 22, 23, 24, 25, 26, 27, 28, 29, 30, 31, 32, 33, 34, 35, 36, 37, 38, 39, 40, 41] (by decide +kernel) (by decide +kernel)
set_option maxRecDepth 20000 in
theorem gX5_home_X5_isBoy : GoodIn wsX5_home (wsV RX5 119 RX5 yX5_isBoy wsX5_isBoy) := goodIn_app (goodIn_of _ (by decide +kernel)) ggX5_home_X5_isBoy
set_option maxRecDepth 20000 in
theorem ggX5_home_X5_nextOf : GoodIn wsX5_home wsX5_nextOf := goodIn_r _ [12, 2, 13, 14, 15, 6, 16, 17, 18, 19, 20, 21, 22, 23, 24, 25, 26, 27, 28, 29, 30, 31, 32, 33, 34, 35, 36, 37, 38, 39, 40, 41] (by decide +kernel) (by decide +kernel)
set_option maxRecDepth 20000 in
theorem gX5_home_X5_nextOf : GoodIn wsX5_home (wsV RX5 128 RX5 yX5_nextOf wsX5_nextOf) := goodIn_app (goodIn_of _ (by decide +kernel)) ggX5_home_X5_nextOf
theorem dX5_home_0 : decode cX5_home 0 = .ok (.aload_n 0, 1) := by decide +kernel
theorem dX5_home_1 : decode cX5_home 1 = .ok (.iload_n 1, 1) := by decide +kernel
theorem dX5_home_2 : decode cX5_home 2 = .ok (.invokevirtual 119, 3) := by decide +kernel
theorem dX5_home_5 : decode cX5_home 5 = .ok (.ifCond .ne 5, 3) := by decide +kernel
theorem dX5_home_8 : decode cX5_home 8 = .ok (.iconst (-1), 1) := by decide +kernel
theorem dX5_home_9 : decode cX5_home 9 = .ok (.ireturn, 1) := by decide +kernel
theorem dX5_home_10 : decode cX5_home 10 = .ok (.aload_n 0, 1) := by decide +kernel
theorem dX5_home_11 : decode cX5_home 11 = .ok (.getfield 25, 3) := by decide +kernel
theorem dX5_home_14 : decode cX5_home 14 = .ok (.iload_n 1, 1) := by decide +kernel
theorem dX5_home_15 : decode cX5_home 15 = .ok (.iaload, 1) := by decide +kernel
theorem dX5_home_16 : decode cX5_home 16 = .ok (.istore_n 2, 1) := by decide +kernel
theorem dX5_home_17 : decode cX5_home 17 = .ok (.iconst 1, 1) := by decide +kernel
theorem dX5_home_18 : decode cX5_home 18 = .ok (.istore_n 3, 1) := by decide +kernel
theorem dX5_home_19 : decode cX5_home 19 = .ok (.iload_n 3, 1) := by decide +kernel
theorem dX5_home_20 : decode cX5_home 20 = .ok (.aload_n 0, 1) := by decide +kernel
theorem dX5_home_21 : decode cX5_home 21 = .ok (.getfield 65, 3) := by decide +kernel
theorem dX5_home_24 : decode cX5_home 24 = .ok (.if_icmp .gt 27, 3) := by decide +kernel
theorem dX5_home_27 : decode cX5_home 27 = .ok (.aload_n 0, 1) := by decide +kernel
theorem dX5_home_28 : decode cX5_home 28 = .ok (.iload_n 2, 1) := by decide +kernel
theorem dX5_home_29 : decode cX5_home 29 = .ok (.invokevirtual 128, 3) := by decide +kernel
theorem dX5_home_32 : decode cX5_home 32 = .ok (.istore_n 2, 1) := by decide +kernel
theorem dX5_home_33 : decode cX5_home 33 = .ok (.iload_n 2, 1) := by decide +kernel
theorem dX5_home_34 : decode cX5_home 34 = .ok (.aload_n 0, 1) := by decide +kernel
theorem dX5_home_35 : decode cX5_home 35 = .ok (.getfield 25, 3) := by decide +kernel
theorem dX5_home_38 : decode cX5_home 38 = .ok (.iload_n 1, 1) := by decide +kernel
theorem dX5_home_39 : decode cX5_home 39 = .ok (.iaload, 1) := by decide +kernel
theorem dX5_home_40 : decode cX5_home 40 = .ok (.if_icmp .ne 5, 3) := by decide +kernel
theorem dX5_home_43 : decode cX5_home 43 = .ok (.iload_n 3, 1) := by decide +kernel
theorem dX5_home_44 : decode cX5_home 44 = .ok (.ireturn, 1) := by decide +kernel
theorem dX5_home_45 : decode cX5_home 45 = .ok (.iinc 3 1, 3) := by decide +kernel
theorem dX5_home_48 : decode cX5_home 48 = .ok (.goto (-29), 3) := by decide +kernel
theorem dX5_home_51 : decode cX5_home 51 = .ok (.bipush (-9), 2) := by decide +kernel
theorem dX5_home_53 : decode cX5_home 53 = .ok (.ireturn, 1) := by decide +kernel
set_option maxRecDepth 20000 in
theorem ggX5_never_X5_isBoy : GoodIn wsX5_never wsX5_isBoy := goodIn_r _ [7, 8, 17, 18, 19, 20, 21, 22, 23, 24, 25, 26, 27, 28, 29, 30, 31, 32, 33, 34, 35, 36, 37, 38, 39, 40, 41] (by decide +kernel) (by decide +kernel)
set_option maxRecDepth 20000 in
theorem gX5_never_X5_isBoy : GoodIn wsX5_never (wsV RX5 119 RX5 yX5_isBoy wsX5_isBoy) := goodIn_app (goodIn_of _ (by decide +kernel)) ggX5_never_X5_isBoy
set_option maxRecDepth 20000 in
theorem ggX5_never_X5_nextOf : GoodIn wsX5_never wsX5_nextOf := goodIn_r _ [12, 2, 13, 14, 15, 6, 16, 17, 18, 19, 20, 21, 22, 23, 24, 25, 26, 27, 28, 29, 30, 31, 32, 33, 34, 35, 36, 37, 38, 39, 40, 41] (by decide +kernel) (by decide +kernel)
set_option maxRecDepth 20000 in
theorem gX5_never_X5_nextOf : GoodIn wsX5_never (wsV RX5 128 RX5 yX5_nextOf wsX5_nextOf) := goodIn_app (goodIn_of _ (by decide +kernel)) ggX5_never_X5_nextOf
theorem dX5_never_0 : decode cX5_never 0 = .ok (.aload_n 0, 1) := by decide +kernel
theorem dX5_never_1 : decode cX5_never 1 = .ok (.iload_n 1, 1) := by decide +kernel
theorem dX5_never_2 : decode cX5_never 2 = .ok (.invokevirtual 119, 3) := by decide +kernel
theorem dX5_never_5 : decode cX5_never 5 = .ok (.ifCond .ne 5, 3) := by decide +kernel
theorem dX5_never_8 : decode cX5_never 8 = .ok (.iconst (-1), 1) := by decide +kernel
theorem dX5_never_9 : decode cX5_never 9 = .ok (.ireturn, 1) := by decide +kernel
theorem dX5_never_10 : decode cX5_never 10 = .ok (.iconst 0, 1) := by decide +kernel
theorem dX5_never_11 : decode cX5_never 11 = .ok (.istore_n 2, 1) := by decide +kernel
theorem dX5_never_12 : decode cX5_never 12 = .ok (.aload_n 0, 1) := by decide +kernel
theorem dX5_never_13 : decode cX5_never 13 = .ok (.getfield 25, 3) := by decide +kernel
theorem dX5_never_16 : decode cX5_never 16 = .ok (.iload_n 1, 1) := by decide +kernel
theorem dX5_never_17 : decode cX5_never 17 = .ok (.iaload, 1) := by decide +kernel
theorem dX5_never_18 : decode cX5_never 18 = .ok (.istore_n 3, 1) := by decide +kernel
theorem dX5_never_19 : decode cX5_never 19 = .ok (.iconst 0, 1) := by decide +kernel
theorem dX5_never_20 : decode cX5_never 20 = .ok (.istore 4, 2) := by decide +kernel
theorem dX5_never_22 : decode cX5_never 22 = .ok (.iload 4, 2) := by decide +kernel
theorem dX5_never_24 : decode cX5_never 24 = .ok (.aload_n 0, 1) := by decide +kernel
theorem dX5_never_25 : decode cX5_never 25 = .ok (.getfield 65, 3) := by decide +kernel
theorem dX5_never_28 : decode cX5_never 28 = .ok (.if_icmp .ge 21, 3) := by decide +kernel
theorem dX5_never_31 : decode cX5_never 31 = .ok (.iload_n 2, 1) := by decide +kernel
theorem dX5_never_32 : decode cX5_never 32 = .ok (.iconst 1, 1) := by decide +kernel
theorem dX5_never_33 : decode cX5_never 33 = .ok (.iload_n 3, 1) := by decide +kernel
theorem dX5_never_34 : decode cX5_never 34 = .ok (.ishl, 1) := by decide +kernel
theorem dX5_never_35 : decode cX5_never 35 = .ok (.ior, 1) := by decide +kernel
theorem dX5_never_36 : decode cX5_never 36 = .ok (.istore_n 2, 1) := by decide +kernel
theorem dX5_never_37 : decode cX5_never 37 = .ok (.aload_n 0, 1) := by decide +kernel
theorem dX5_never_38 : decode cX5_never 38 = .ok (.iload_n 3, 1) := by decide +kernel
theorem dX5_never_39 : decode cX5_never 39 = .ok (.invokevirtual 128, 3) := by decide +kernel
theorem dX5_never_42 : decode cX5_never 42 = .ok (.istore_n 3, 1) := by decide +kernel
theorem dX5_never_43 : decode cX5_never 43 = .ok (.iinc 4 1, 3) := by decide +kernel
theorem dX5_never_46 : decode cX5_never 46 = .ok (.goto (-24), 3) := by decide +kernel
theorem dX5_never_49 : decode cX5_never 49 = .ok (.iconst 1, 1) := by decide +kernel
theorem dX5_never_50 : decode cX5_never 50 = .ok (.aload_n 0, 1) := by decide +kernel
theorem dX5_never_51 : decode cX5_never 51 = .ok (.getfield 65, 3) := by decide +kernel
theorem dX5_never_54 : decode cX5_never 54 = .ok (.ishl, 1) := by decide +kernel
theorem dX5_never_55 : decode cX5_never 55 = .ok (.iconst 1, 1) := by decide +kernel
theorem dX5_never_56 : decode cX5_never 56 = .ok (.isub, 1) := by decide +kernel
theorem dX5_never_57 : decode cX5_never 57 = .ok (.iload_n 2, 1) := by decide +kernel
theorem dX5_never_58 : decode cX5_never 58 = .ok (.iconst (-1), 1) := by decide +kernel
theorem dX5_never_59 : decode cX5_never 59 = .ok (.ixor, 1) := by decide +kernel
theorem dX5_never_60 : decode cX5_never 60 = .ok (.iand, 1) := by decide +kernel
theorem dX5_never_61 : decode cX5_never 61 = .ok (.ireturn, 1) := by decide +kernel
set_option maxRecDepth 20000 in
theorem ggX5_walk_X5_isBoy : GoodIn wsX5_walk wsX5_isBoy := goodIn_r _ [8, 9, 42, 43, 44, 45, 46, 47, 48, 49, 50, 51, 52, 53, 54, 55, 56, 57, 58, 59, 60, 61, 62, 63, 64, 65, 66] (by decide +kernel) (by decide +kernel)
set_option maxRecDepth 20000 in
theorem gX5_walk_X5_isBoy : GoodIn wsX5_walk (wsV RX5 119 RX5 yX5_isBoy wsX5_isBoy) := goodIn_app (goodIn_of _ (by decide +kernel)) ggX5_walk_X5_isBoy
set_option maxRecDepth 20000 in
theorem ggX5_walk_X5_isSheet : GoodIn wsX5_walk wsX5_isSheet := goodIn_r _ [12, 13, 14, 7, 15] (by decide +kernel) (by decide +kernel)
set_option maxRecDepth 20000 in
theorem gX5_walk_X5_isSheet : GoodIn wsX5_walk (va_wsS RX5 74 yX5_isSheet wsX5_isSheet) := goodIn_app (goodIn_of _ (by decide +kernel)) ggX5_walk_X5_isSheet
set_option maxRecDepth 20000 in
theorem ggX5_walk_X5_isSort : GoodIn wsX5_walk wsX5_isSort := goodIn_r _ [18, 13, 14, 7, 15] (by decide +kernel) (by decide +kernel)
set_option maxRecDepth 20000 in
theorem gX5_walk_X5_isSort : GoodIn wsX5_walk (va_wsS RX5 78 yX5_isSort wsX5_isSort) := goodIn_app (goodIn_of _ (by decide +kernel)) ggX5_walk_X5_isSort
set_option maxRecDepth 20000 in
theorem ggX5_walk_X5_within : GoodIn wsX5_walk wsX5_within := goodIn_r _ [15] (by decide +kernel) (by decide +kernel)
set_option maxRecDepth 20000 in
theorem gX5_walk_X5_within : GoodIn wsX5_walk (va_wsS RX5 61 yX5_within wsX5_within) := goodIn_app (goodIn_of _ (by decide +kernel)) ggX5_walk_X5_within
set_option maxRecDepth 20000 in
theorem ggX5_walk_X5_against : GoodIn wsX5_walk wsX5_against := goodIn_r _ [22, 23, 24, 42, 43, 44, 45, 46, 47, 48, 49, 50, 51, 52, 53, 54, 55, 56, 57, 58, 59, 60, 61, 62, 63, 64, 65, 66] (by decide +kernel) (by decide +kernel)
set_option maxRecDepth 20000 in
theorem gX5_walk_X5_against : GoodIn wsX5_walk (wsV RX5 81 RX5 yX5_against wsX5_against) := goodIn_app (goodIn_of _ (by decide +kernel)) ggX5_walk_X5_against
set_option maxRecDepth 20000 in
theorem ggX5_walk_X5_fails : GoodIn wsX5_walk wsX5_fails := goodIn_r _ [28, 1, 42, 43, 44, 45, 46, 47, 48, 49, 50, 51, 52, 53, 54, 55, 56, 57, 58, 59, 60, 61, 62, 63, 64, 65, 66] (by decide +kernel) (by decide +kernel)
set_option maxRecDepth 20000 in
theorem gX5_walk_X5_fails : GoodIn wsX5_walk (wsV RX5 85 RX5 yX5_fails wsX5_fails) := goodIn_app (goodIn_of _ (by decide +kernel)) ggX5_walk_X5_fails
set_option maxRecDepth 20000 in
theorem ggX5_walk_X5_isMaster : GoodIn wsX5_walk wsX5_isMaster := goodIn_r _ [32, 33, 42, 43, 44, 45, 46, 47, 48, 49, 50, 51, 52, 53, 54, 55, 56, 57, 58, 59, 60, 61, 62, 63, 64, 65, 66] (by decide +kernel) (by decide +kernel)
set_option maxRecDepth 20000 in
theorem gX5_walk_X5_isMaster : GoodIn wsX5_walk (wsV RX5 125 RX5 yX5_isMaster wsX5_isMaster) := goodIn_app (goodIn_of _ (by decide +kernel)) ggX5_walk_X5_isMaster
set_option maxRecDepth 20000 in
theorem ggX5_walk_X5_nextOf : GoodIn wsX5_walk wsX5_nextOf := goodIn_r _ [37, 33, 38, 39, 40, 7, 41, 42, 43, 44, 45, 46, 47, 48, 49, 50, 51, 52, 53, 54, 55, 56, 57, 58, 59, 60, 61, 62, 63, 64, 65, 66] (by decide +kernel) (by decide +kernel)
set_option maxRecDepth 20000 in
theorem gX5_walk_X5_nextOf : GoodIn wsX5_walk (wsV RX5 128 RX5 yX5_nextOf wsX5_nextOf) := goodIn_app (goodIn_of _ (by decide +kernel)) ggX5_walk_X5_nextOf
theorem dX5_walk_0 : decode cX5_walk 0 = .ok (.aload_n 0, 1) := by decide +kernel
theorem dX5_walk_1 : decode cX5_walk 1 = .ok (.iconst 0, 1) := by decide +kernel
theorem dX5_walk_2 : decode cX5_walk 2 = .ok (.putfield 55, 3) := by decide +kernel
theorem dX5_walk_5 : decode cX5_walk 5 = .ok (.aload_n 0, 1) := by decide +kernel
theorem dX5_walk_6 : decode cX5_walk 6 = .ok (.iload_n 1, 1) := by decide +kernel
theorem dX5_walk_7 : decode cX5_walk 7 = .ok (.invokevirtual 119, 3) := by decide +kernel
theorem dX5_walk_10 : decode cX5_walk 10 = .ok (.ifCond .eq 10, 3) := by decide +kernel
theorem dX5_walk_13 : decode cX5_walk 13 = .ok (.iload_n 2, 1) := by decide +kernel
theorem dX5_walk_14 : decode cX5_walk 14 = .ok (.invokestatic 74, 3) := by decide +kernel
theorem dX5_walk_17 : decode cX5_walk 17 = .ok (.ifCond .ne 5, 3) := by decide +kernel
theorem dX5_walk_20 : decode cX5_walk 20 = .ok (.iconst (-1), 1) := by decide +kernel
theorem dX5_walk_21 : decode cX5_walk 21 = .ok (.ireturn, 1) := by decide +kernel
theorem dX5_walk_22 : decode cX5_walk 22 = .ok (.iload_n 3, 1) := by decide +kernel
theorem dX5_walk_23 : decode cX5_walk 23 = .ok (.invokestatic 78, 3) := by decide +kernel
theorem dX5_walk_26 : decode cX5_walk 26 = .ok (.ifCond .eq 14, 3) := by decide +kernel
theorem dX5_walk_29 : decode cX5_walk 29 = .ok (.iload 5, 2) := by decide +kernel
theorem dX5_walk_31 : decode cX5_walk 31 = .ok (.iconst 0, 1) := by decide +kernel
theorem dX5_walk_32 : decode cX5_walk 32 = .ok (.bipush 40, 2) := by decide +kernel
theorem dX5_walk_34 : decode cX5_walk 34 = .ok (.invokestatic 61, 3) := by decide +kernel
theorem dX5_walk_37 : decode cX5_walk 37 = .ok (.ifCond .ne 6, 3) := by decide +kernel
theorem dX5_walk_40 : decode cX5_walk 40 = .ok (.bipush (-2), 2) := by decide +kernel
theorem dX5_walk_42 : decode cX5_walk 42 = .ok (.ireturn, 1) := by decide +kernel
theorem dX5_walk_43 : decode cX5_walk 43 = .ok (.aload_n 0, 1) := by decide +kernel
theorem dX5_walk_44 : decode cX5_walk 44 = .ok (.iload_n 2, 1) := by decide +kernel
theorem dX5_walk_45 : decode cX5_walk 45 = .ok (.iload_n 3, 1) := by decide +kernel
theorem dX5_walk_46 : decode cX5_walk 46 = .ok (.iload 4, 2) := by decide +kernel
theorem dX5_walk_48 : decode cX5_walk 48 = .ok (.iload 5, 2) := by decide +kernel
theorem dX5_walk_50 : decode cX5_walk 50 = .ok (.invokevirtual 81, 3) := by decide +kernel
theorem dX5_walk_53 : decode cX5_walk 53 = .ok (.istore 6, 2) := by decide +kernel
theorem dX5_walk_55 : decode cX5_walk 55 = .ok (.iload 6, 2) := by decide +kernel
theorem dX5_walk_57 : decode cX5_walk 57 = .ok (.ifCond .eq 10, 3) := by decide +kernel
theorem dX5_walk_60 : decode cX5_walk 60 = .ok (.aload_n 0, 1) := by decide +kernel
theorem dX5_walk_61 : decode cX5_walk 61 = .ok (.iload 6, 2) := by decide +kernel
theorem dX5_walk_63 : decode cX5_walk 63 = .ok (.invokevirtual 85, 3) := by decide +kernel
theorem dX5_walk_66 : decode cX5_walk 66 = .ok (.ireturn, 1) := by decide +kernel
theorem dX5_walk_67 : decode cX5_walk 67 = .ok (.bipush 60, 2) := by decide +kernel
theorem dX5_walk_69 : decode cX5_walk 69 = .ok (.iload_n 2, 1) := by decide +kernel
theorem dX5_walk_70 : decode cX5_walk 70 = .ok (.imul, 1) := by decide +kernel
theorem dX5_walk_71 : decode cX5_walk 71 = .ok (.iload 4, 2) := by decide +kernel
theorem dX5_walk_73 : decode cX5_walk 73 = .ok (.iadd, 1) := by decide +kernel
theorem dX5_walk_74 : decode cX5_walk 74 = .ok (.istore 7, 2) := by decide +kernel
theorem dX5_walk_76 : decode cX5_walk 76 = .ok (.iconst 0, 1) := by decide +kernel
theorem dX5_walk_77 : decode cX5_walk 77 = .ok (.istore 8, 2) := by decide +kernel
theorem dX5_walk_79 : decode cX5_walk 79 = .ok (.iload 8, 2) := by decide +kernel
theorem dX5_walk_81 : decode cX5_walk 81 = .ok (.iload 5, 2) := by decide +kernel
theorem dX5_walk_83 : decode cX5_walk 83 = .ok (.if_icmp .ge 28, 3) := by decide +kernel
theorem dX5_walk_86 : decode cX5_walk 86 = .ok (.aload_n 0, 1) := by decide +kernel
theorem dX5_walk_87 : decode cX5_walk 87 = .ok (.aload_n 0, 1) := by decide +kernel
theorem dX5_walk_88 : decode cX5_walk 88 = .ok (.getfield 16, 3) := by decide +kernel
theorem dX5_walk_91 : decode cX5_walk 91 = .ok (.iload 7, 2) := by decide +kernel
theorem dX5_walk_93 : decode cX5_walk 93 = .ok (.iload 8, 2) := by decide +kernel
theorem dX5_walk_95 : decode cX5_walk 95 = .ok (.iadd, 1) := by decide +kernel
theorem dX5_walk_96 : decode cX5_walk 96 = .ok (.iaload, 1) := by decide +kernel
theorem dX5_walk_97 : decode cX5_walk 97 = .ok (.invokevirtual 125, 3) := by decide +kernel
theorem dX5_walk_100 : decode cX5_walk 100 = .ok (.ifCond .ne 5, 3) := by decide +kernel
theorem dX5_walk_103 : decode cX5_walk 103 = .ok (.iconst (-1), 1) := by decide +kernel
theorem dX5_walk_104 : decode cX5_walk 104 = .ok (.ireturn, 1) := by decide +kernel
theorem dX5_walk_105 : decode cX5_walk 105 = .ok (.iinc 8 1, 3) := by decide +kernel
theorem dX5_walk_108 : decode cX5_walk 108 = .ok (.goto (-29), 3) := by decide +kernel
theorem dX5_walk_111 : decode cX5_walk 111 = .ok (.aload_n 0, 1) := by decide +kernel
theorem dX5_walk_112 : decode cX5_walk 112 = .ok (.getfield 25, 3) := by decide +kernel
theorem dX5_walk_115 : decode cX5_walk 115 = .ok (.iload_n 1, 1) := by decide +kernel
theorem dX5_walk_116 : decode cX5_walk 116 = .ok (.iaload, 1) := by decide +kernel
theorem dX5_walk_117 : decode cX5_walk 117 = .ok (.istore 8, 2) := by decide +kernel
theorem dX5_walk_119 : decode cX5_walk 119 = .ok (.iconst 0, 1) := by decide +kernel
theorem dX5_walk_120 : decode cX5_walk 120 = .ok (.istore 9, 2) := by decide +kernel
theorem dX5_walk_122 : decode cX5_walk 122 = .ok (.iload 9, 2) := by decide +kernel
theorem dX5_walk_124 : decode cX5_walk 124 = .ok (.iload 5, 2) := by decide +kernel
theorem dX5_walk_126 : decode cX5_walk 126 = .ok (.if_icmp .ge 35, 3) := by decide +kernel
theorem dX5_walk_129 : decode cX5_walk 129 = .ok (.aload_n 0, 1) := by decide +kernel
theorem dX5_walk_130 : decode cX5_walk 130 = .ok (.getfield 16, 3) := by decide +kernel
theorem dX5_walk_133 : decode cX5_walk 133 = .ok (.iload 7, 2) := by decide +kernel
theorem dX5_walk_135 : decode cX5_walk 135 = .ok (.iload 9, 2) := by decide +kernel
theorem dX5_walk_137 : decode cX5_walk 137 = .ok (.iadd, 1) := by decide +kernel
theorem dX5_walk_138 : decode cX5_walk 138 = .ok (.iaload, 1) := by decide +kernel
theorem dX5_walk_139 : decode cX5_walk 139 = .ok (.iload 8, 2) := by decide +kernel
theorem dX5_walk_141 : decode cX5_walk 141 = .ok (.if_icmp .eq 6, 3) := by decide +kernel
theorem dX5_walk_144 : decode cX5_walk 144 = .ok (.iload 9, 2) := by decide +kernel
theorem dX5_walk_146 : decode cX5_walk 146 = .ok (.ireturn, 1) := by decide +kernel
theorem dX5_walk_147 : decode cX5_walk 147 = .ok (.aload_n 0, 1) := by decide +kernel
theorem dX5_walk_148 : decode cX5_walk 148 = .ok (.iload 8, 2) := by decide +kernel
theorem dX5_walk_150 : decode cX5_walk 150 = .ok (.invokevirtual 128, 3) := by decide +kernel
theorem dX5_walk_153 : decode cX5_walk 153 = .ok (.istore 8, 2) := by decide +kernel
theorem dX5_walk_155 : decode cX5_walk 155 = .ok (.iinc 9 1, 3) := by decide +kernel
theorem dX5_walk_158 : decode cX5_walk 158 = .ok (.goto (-36), 3) := by decide +kernel
theorem dX5_walk_161 : decode cX5_walk 161 = .ok (.bipush (-9), 2) := by decide +kernel
theorem dX5_walk_163 : decode cX5_walk 163 = .ok (.ireturn, 1) := by decide +kernel
set_option maxRecDepth 20000 in
theorem ggX5_isBy_X5_spot : GoodIn wsX5_isBy wsX5_spot := goodIn_r _ [5] (by decide +kernel) (by decide +kernel)
set_option maxRecDepth 20000 in
theorem gX5_isBy_X5_spot : GoodIn wsX5_isBy (va_wsS RX5 115 yX5_spot wsX5_spot) := goodIn_app (goodIn_of _ (by decide +kernel)) ggX5_isBy_X5_spot
set_option maxRecDepth 20000 in
theorem ggX5_isBy_X5_whereOf : GoodIn wsX5_isBy wsX5_whereOf := goodIn_r _ [9, 10, 11, 12, 13, 4, 14, 15, 1, 2, 3, 5, 16, 17, 18, 19, 20, 21, 22, 23, 24, 25, 26, 27, 28, 29, 30, 31, 32, 33, 34, 35, 36, 37, 38, 39, 40] (by decide +kernel) (by decide +kernel)
set_option maxRecDepth 20000 in
theorem gX5_isBy_X5_whereOf : GoodIn wsX5_isBy (wsV RX5 131 RX5 yX5_whereOf wsX5_whereOf) := goodIn_app (goodIn_of _ (by decide +kernel)) ggX5_isBy_X5_whereOf
theorem dX5_isBy_0 : decode cX5_isBy 0 = .ok (.iload_n 1, 1) := by decide +kernel
theorem dX5_isBy_1 : decode cX5_isBy 1 = .ok (.iload_n 2, 1) := by decide +kernel
theorem dX5_isBy_2 : decode cX5_isBy 2 = .ok (.invokestatic 115, 3) := by decide +kernel
theorem dX5_isBy_5 : decode cX5_isBy 5 = .ok (.istore 7, 2) := by decide +kernel
theorem dX5_isBy_7 : decode cX5_isBy 7 = .ok (.iload_n 1, 1) := by decide +kernel
theorem dX5_isBy_8 : decode cX5_isBy 8 = .ok (.iload_n 2, 1) := by decide +kernel
theorem dX5_isBy_9 : decode cX5_isBy 9 = .ok (.if_icmp .eq 17, 3) := by decide +kernel
theorem dX5_isBy_12 : decode cX5_isBy 12 = .ok (.aload_n 0, 1) := by decide +kernel
theorem dX5_isBy_13 : decode cX5_isBy 13 = .ok (.getfield 19, 3) := by decide +kernel
theorem dX5_isBy_16 : decode cX5_isBy 16 = .ok (.iload 7, 2) := by decide +kernel
theorem dX5_isBy_18 : decode cX5_isBy 18 = .ok (.iaload, 1) := by decide +kernel
theorem dX5_isBy_19 : decode cX5_isBy 19 = .ok (.iload_n 3, 1) := by decide +kernel
theorem dX5_isBy_20 : decode cX5_isBy 20 = .ok (.iadd, 1) := by decide +kernel
theorem dX5_isBy_21 : decode cX5_isBy 21 = .ok (.bipush 9, 2) := by decide +kernel
theorem dX5_isBy_23 : decode cX5_isBy 23 = .ok (.if_icmp .le 5, 3) := by decide +kernel
theorem dX5_isBy_26 : decode cX5_isBy 26 = .ok (.iconst 0, 1) := by decide +kernel
theorem dX5_isBy_27 : decode cX5_isBy 27 = .ok (.ireturn, 1) := by decide +kernel
theorem dX5_isBy_28 : decode cX5_isBy 28 = .ok (.aload_n 0, 1) := by decide +kernel
theorem dX5_isBy_29 : decode cX5_isBy 29 = .ok (.getfield 19, 3) := by decide +kernel
theorem dX5_isBy_32 : decode cX5_isBy 32 = .ok (.iload 7, 2) := by decide +kernel
theorem dX5_isBy_34 : decode cX5_isBy 34 = .ok (.dup2, 1) := by decide +kernel
theorem dX5_isBy_35 : decode cX5_isBy 35 = .ok (.iaload, 1) := by decide +kernel
theorem dX5_isBy_36 : decode cX5_isBy 36 = .ok (.iload_n 3, 1) := by decide +kernel
theorem dX5_isBy_37 : decode cX5_isBy 37 = .ok (.iadd, 1) := by decide +kernel
theorem dX5_isBy_38 : decode cX5_isBy 38 = .ok (.iastore, 1) := by decide +kernel
theorem dX5_isBy_39 : decode cX5_isBy 39 = .ok (.aload_n 0, 1) := by decide +kernel
theorem dX5_isBy_40 : decode cX5_isBy 40 = .ok (.iload 4, 2) := by decide +kernel
theorem dX5_isBy_42 : decode cX5_isBy 42 = .ok (.iload 6, 2) := by decide +kernel
theorem dX5_isBy_44 : decode cX5_isBy 44 = .ok (.invokevirtual 131, 3) := by decide +kernel
theorem dX5_isBy_47 : decode cX5_isBy 47 = .ok (.iload 5, 2) := by decide +kernel
theorem dX5_isBy_49 : decode cX5_isBy 49 = .ok (.if_icmp .ne 7, 3) := by decide +kernel
theorem dX5_isBy_52 : decode cX5_isBy 52 = .ok (.iconst 1, 1) := by decide +kernel
theorem dX5_isBy_53 : decode cX5_isBy 53 = .ok (.goto 4, 3) := by decide +kernel
theorem dX5_isBy_56 : decode cX5_isBy 56 = .ok (.iconst 0, 1) := by decide +kernel
theorem dX5_isBy_57 : decode cX5_isBy 57 = .ok (.istore 8, 2) := by decide +kernel
theorem dX5_isBy_59 : decode cX5_isBy 59 = .ok (.aload_n 0, 1) := by decide +kernel
theorem dX5_isBy_60 : decode cX5_isBy 60 = .ok (.getfield 19, 3) := by decide +kernel
theorem dX5_isBy_63 : decode cX5_isBy 63 = .ok (.iload 7, 2) := by decide +kernel
theorem dX5_isBy_65 : decode cX5_isBy 65 = .ok (.dup2, 1) := by decide +kernel
theorem dX5_isBy_66 : decode cX5_isBy 66 = .ok (.iaload, 1) := by decide +kernel
theorem dX5_isBy_67 : decode cX5_isBy 67 = .ok (.iload_n 3, 1) := by decide +kernel
theorem dX5_isBy_68 : decode cX5_isBy 68 = .ok (.isub, 1) := by decide +kernel
theorem dX5_isBy_69 : decode cX5_isBy 69 = .ok (.iastore, 1) := by decide +kernel
theorem dX5_isBy_70 : decode cX5_isBy 70 = .ok (.iload 8, 2) := by decide +kernel
theorem dX5_isBy_72 : decode cX5_isBy 72 = .ok (.ireturn, 1) := by decide +kernel
set_option maxRecDepth 20000 in
theorem ggX5_findForge_X5_whereOf : GoodIn wsX5_findForge wsX5_whereOf := goodIn_r _ [8, 9, 10, 11, 12, 7, 13, 3, 14, 15, 16, 17, 22, 23, 24, 25, 26, 27, 28, 29, 30, 31, 32, 33, 34, 35, 36, 37, 38, 39, 40, 41, 42, 43, 44, 45, 46] (by decide +kernel) (by decide +kernel)
set_option maxRecDepth 20000 in
theorem gX5_findForge_X5_whereOf : GoodIn wsX5_findForge (wsV RX5 131 RX5 yX5_whereOf wsX5_whereOf) := goodIn_app (goodIn_of _ (by decide +kernel)) ggX5_findForge_X5_whereOf
set_option maxRecDepth 20000 in
theorem ggX5_findForge_X5_isBy : GoodIn wsX5_findForge wsX5_isBy := goodIn_r _ [21, 14, 15, 16, 7, 17, 4, 5, 6, 8, 9, 10, 11, 12, 13, 3, 22, 23, 24, 25, 26, 27, 28, 29, 30, 31, 32, 33, 34, 35, 36, 37, 38, 39, 40, 41, 42, 43, 44, 45, 46] (by decide +kernel) (by decide +kernel)
set_option maxRecDepth 20000 in
theorem gX5_findForge_X5_isBy : GoodIn wsX5_findForge (wsV RX5 143 RX5 yX5_isBy wsX5_isBy) := goodIn_app (goodIn_of _ (by decide +kernel)) ggX5_findForge_X5_isBy
theorem dX5_findForge_0 : decode cX5_findForge 0 = .ok (.aload_n 0, 1) := by decide +kernel
theorem dX5_findForge_1 : decode cX5_findForge 1 = .ok (.bipush (-9), 2) := by decide +kernel
theorem dX5_findForge_3 : decode cX5_findForge 3 = .ok (.putfield 137, 3) := by decide +kernel
theorem dX5_findForge_6 : decode cX5_findForge 6 = .ok (.aload_n 0, 1) := by decide +kernel
theorem dX5_findForge_7 : decode cX5_findForge 7 = .ok (.bipush (-9), 2) := by decide +kernel
