theorem dX4_copy_71 : decode cX4_copy 71 = .ok (.aload_n 0, 1) := by decide +kernel
theorem dX4_copy_72 : decode cX4_copy 72 = .ok (.iconst 2, 1) := by decide +kernel
theorem dX4_copy_73 : decode cX4_copy 73 = .ok (.invokevirtual 60, 3) := by decide +kernel
theorem dX4_copy_76 : decode cX4_copy 76 = .ok (.ireturn, 1) := by decide +kernel
theorem dX4_copy_77 : decode cX4_copy 77 = .ok (.aload 6, 2) := by decide +kernel
theorem dX4_copy_79 : decode cX4_copy 79 = .ok (.iload_n 2, 1) := by decide +kernel
theorem dX4_copy_80 : decode cX4_copy 80 = .ok (.iload 5, 2) := by decide +kernel
theorem dX4_copy_82 : decode cX4_copy 82 = .ok (.invokevirtual 177, 3) := by decide +kernel
theorem dX4_copy_85 : decode cX4_copy 85 = .ok (.ifCond .eq 15, 3) := by decide +kernel
theorem dX4_copy_88 : decode cX4_copy 88 = .ok (.aload 7, 2) := by decide +kernel
theorem dX4_copy_90 : decode cX4_copy 90 = .ok (.iload 4, 2) := by decide +kernel
theorem dX4_copy_92 : decode cX4_copy 92 = .ok (.iload 5, 2) := by decide +kernel
theorem dX4_copy_94 : decode cX4_copy 94 = .ok (.invokevirtual 177, 3) := by decide +kernel
theorem dX4_copy_97 : decode cX4_copy 97 = .ok (.ifCond .ne 9, 3) := by decide +kernel
theorem dX4_copy_100 : decode cX4_copy 100 = .ok (.aload_n 0, 1) := by decide +kernel
theorem dX4_copy_101 : decode cX4_copy 101 = .ok (.iconst 3, 1) := by decide +kernel
theorem dX4_copy_102 : decode cX4_copy 102 = .ok (.invokevirtual 60, 3) := by decide +kernel
theorem dX4_copy_105 : decode cX4_copy 105 = .ok (.ireturn, 1) := by decide +kernel
theorem dX4_copy_106 : decode cX4_copy 106 = .ok (.aload_n 0, 1) := by decide +kernel
theorem dX4_copy_107 : decode cX4_copy 107 = .ok (.iconst 0, 1) := by decide +kernel
theorem dX4_copy_108 : decode cX4_copy 108 = .ok (.putfield 40, 3) := by decide +kernel
theorem dX4_copy_111 : decode cX4_copy 111 = .ok (.aload 6, 2) := by decide +kernel
theorem dX4_copy_113 : decode cX4_copy 113 = .ok (.getfield 139, 3) := by decide +kernel
theorem dX4_copy_116 : decode cX4_copy 116 = .ok (.iload_n 2, 1) := by decide +kernel
theorem dX4_copy_117 : decode cX4_copy 117 = .ok (.aload 7, 2) := by decide +kernel
theorem dX4_copy_119 : decode cX4_copy 119 = .ok (.getfield 139, 3) := by decide +kernel
theorem dX4_copy_122 : decode cX4_copy 122 = .ok (.iload 4, 2) := by decide +kernel
theorem dX4_copy_124 : decode cX4_copy 124 = .ok (.iload 5, 2) := by decide +kernel
theorem dX4_copy_126 : decode cX4_copy 126 = .ok (.invokestatic 186, 3) := by decide +kernel
theorem dX4_copy_129 : decode cX4_copy 129 = .ok (.iload 5, 2) := by decide +kernel
theorem dX4_copy_131 : decode cX4_copy 131 = .ok (.ireturn, 1) := by decide +kernel
set_option maxRecDepth 20000 in
theorem ggX4_tell_X2_hasBoy : GoodIn wsX4_tell wsX2_hasBoy := goodIn_r _ [6, 7, 33, 34, 35, 36, 37] (by decide +kernel) (by decide +kernel)
set_option maxRecDepth 20000 in
theorem gX4_tell_X2_hasBoy : GoodIn wsX4_tell (wsV RX4 79 RX2 yX2_hasBoy wsX2_hasBoy) := goodIn_app (goodIn_of _ (by decide +kernel)) ggX4_tell_X2_hasBoy
set_option maxRecDepth 20000 in
theorem ggX4_tell_X4_toldByClever : GoodIn wsX4_tell wsX4_toldByClever := goodIn_r _ [12, 13, 14, 15, 11, 16, 17, 18, 19, 20, 21, 1, 26, 27, 28, 29, 30, 31, 32, 33, 34, 35, 36, 37] (by decide +kernel) (by decide +kernel)
set_option maxRecDepth 20000 in
theorem gX4_tell_X4_toldByClever : GoodIn wsX4_tell (wsV RX4 192 RX4 yX4_toldByClever wsX4_toldByClever) := goodIn_app (goodIn_of _ (by decide +kernel)) ggX4_tell_X4_toldByClever
set_option maxRecDepth 20000 in
theorem ggX4_tell_X4_toldByDunce : GoodIn wsX4_tell wsX4_toldByDunce := goodIn_r _ [25, 13, 14, 15, 11, 16, 17, 8, 9, 10, 12, 18, 19, 20, 21, 1, 26, 27, 28, 29, 30, 31, 32, 33, 34, 35, 36, 37] (by decide +kernel) (by decide +kernel)
set_option maxRecDepth 20000 in
theorem gX4_tell_X4_toldByDunce : GoodIn wsX4_tell (wsV RX4 195 RX4 yX4_toldByDunce wsX4_toldByDunce) := goodIn_app (goodIn_of _ (by decide +kernel)) ggX4_tell_X4_toldByDunce
set_option maxRecDepth 20000 in
theorem ggX4_tell_X4_toldByBoy : GoodIn wsX4_tell wsX4_toldByBoy := goodIn_r _ [21, 1, 13, 14, 15, 11, 16, 17, 26, 27, 28, 29, 30, 31, 32, 33, 34, 35, 36, 37] (by decide +kernel) (by decide +kernel)
set_option maxRecDepth 20000 in
theorem gX4_tell_X4_toldByBoy : GoodIn wsX4_tell (wsV RX4 198 RX4 yX4_toldByBoy wsX4_toldByBoy) := goodIn_app (goodIn_of _ (by decide +kernel)) ggX4_tell_X4_toldByBoy
theorem dX4_tell_0 : decode cX4_tell 0 = .ok (.aload_n 0, 1) := by decide +kernel
theorem dX4_tell_1 : decode cX4_tell 1 = .ok (.getfield 12, 3) := by decide +kernel
theorem dX4_tell_4 : decode cX4_tell 4 = .ok (.iload_n 1, 1) := by decide +kernel
theorem dX4_tell_5 : decode cX4_tell 5 = .ok (.invokevirtual 79, 3) := by decide +kernel
theorem dX4_tell_8 : decode cX4_tell 8 = .ok (.ifCond .ne 5, 3) := by decide +kernel
theorem dX4_tell_11 : decode cX4_tell 11 = .ok (.iconst (-1), 1) := by decide +kernel
theorem dX4_tell_12 : decode cX4_tell 12 = .ok (.ireturn, 1) := by decide +kernel
theorem dX4_tell_13 : decode cX4_tell 13 = .ok (.aload_n 0, 1) := by decide +kernel
theorem dX4_tell_14 : decode cX4_tell 14 = .ok (.getfield 12, 3) := by decide +kernel
theorem dX4_tell_17 : decode cX4_tell 17 = .ok (.getfield 82, 3) := by decide +kernel
theorem dX4_tell_20 : decode cX4_tell 20 = .ok (.iload_n 1, 1) := by decide +kernel
theorem dX4_tell_21 : decode cX4_tell 21 = .ok (.iaload, 1) := by decide +kernel
theorem dX4_tell_22 : decode cX4_tell 22 = .ok (.lookupswitch 38 #[(1, 26), (2, 32)], 26) := by decide +kernel
theorem dX4_tell_48 : decode cX4_tell 48 = .ok (.aload_n 0, 1) := by decide +kernel
theorem dX4_tell_49 : decode cX4_tell 49 = .ok (.iload_n 1, 1) := by decide +kernel
theorem dX4_tell_50 : decode cX4_tell 50 = .ok (.invokevirtual 192, 3) := by decide +kernel
theorem dX4_tell_53 : decode cX4_tell 53 = .ok (.ireturn, 1) := by decide +kernel
theorem dX4_tell_54 : decode cX4_tell 54 = .ok (.aload_n 0, 1) := by decide +kernel
theorem dX4_tell_55 : decode cX4_tell 55 = .ok (.iload_n 1, 1) := by decide +kernel
theorem dX4_tell_56 : decode cX4_tell 56 = .ok (.invokevirtual 195, 3) := by decide +kernel
theorem dX4_tell_59 : decode cX4_tell 59 = .ok (.ireturn, 1) := by decide +kernel
theorem dX4_tell_60 : decode cX4_tell 60 = .ok (.aload_n 0, 1) := by decide +kernel
theorem dX4_tell_61 : decode cX4_tell 61 = .ok (.iload_n 1, 1) := by decide +kernel
theorem dX4_tell_62 : decode cX4_tell 62 = .ok (.invokevirtual 198, 3) := by decide +kernel
theorem dX4_tell_65 : decode cX4_tell 65 = .ok (.ireturn, 1) := by decide +kernel
set_option maxRecDepth 20000 in
theorem ggX4_toldByBoy_X4_leaveTrace : GoodIn wsX4_toldByBoy wsX4_leaveTrace := goodIn_r _ [6, 7, 8, 9, 10, 11, 12, 13, 14] (by decide +kernel) (by decide +kernel)
set_option maxRecDepth 20000 in
theorem gX4_toldByBoy_X4_leaveTrace : GoodIn wsX4_toldByBoy (wsV RX4 201 RX4 yX4_leaveTrace wsX4_leaveTrace) := goodIn_app (goodIn_of _ (by decide +kernel)) ggX4_toldByBoy_X4_leaveTrace
theorem dX4_toldByBoy_0 : decode cX4_toldByBoy 0 = .ok (.aload_n 0, 1) := by decide +kernel
theorem dX4_toldByBoy_1 : decode cX4_toldByBoy 1 = .ok (.iconst 1, 1) := by decide +kernel
theorem dX4_toldByBoy_2 : decode cX4_toldByBoy 2 = .ok (.invokevirtual 201, 3) := by decide +kernel
theorem dX4_toldByBoy_5 : decode cX4_toldByBoy 5 = .ok (.aload_n 0, 1) := by decide +kernel
theorem dX4_toldByBoy_6 : decode cX4_toldByBoy 6 = .ok (.getfield 12, 3) := by decide +kernel
theorem dX4_toldByBoy_9 : decode cX4_toldByBoy 9 = .ok (.getfield 86, 3) := by decide +kernel
theorem dX4_toldByBoy_12 : decode cX4_toldByBoy 12 = .ok (.iload_n 1, 1) := by decide +kernel
theorem dX4_toldByBoy_13 : decode cX4_toldByBoy 13 = .ok (.iaload, 1) := by decide +kernel
theorem dX4_toldByBoy_14 : decode cX4_toldByBoy 14 = .ok (.ireturn, 1) := by decide +kernel
set_option maxRecDepth 20000 in
theorem ggX4_toldByClever_X4_leaveTrace : GoodIn wsX4_toldByClever wsX4_leaveTrace := goodIn_r _ [5, 6, 12, 13, 14, 15, 16, 17, 18] (by decide +kernel) (by decide +kernel)
set_option maxRecDepth 20000 in
theorem gX4_toldByClever_X4_leaveTrace : GoodIn wsX4_toldByClever (wsV RX4 201 RX4 yX4_leaveTrace wsX4_leaveTrace) := goodIn_app (goodIn_of _ (by decide +kernel)) ggX4_toldByClever_X4_leaveTrace
set_option maxRecDepth 20000 in
theorem ggX4_toldByClever_X4_toldByBoy : GoodIn wsX4_toldByClever wsX4_toldByBoy := goodIn_r _ [10, 11, 1, 2, 3, 4, 5, 6, 12, 13, 14, 15, 16, 17, 18, 19, 20, 21, 22, 23] (by decide +kernel) (by decide +kernel)
set_option maxRecDepth 20000 in
theorem gX4_toldByClever_X4_toldByBoy : GoodIn wsX4_toldByClever (wsV RX4 198 RX4 yX4_toldByBoy wsX4_toldByBoy) := goodIn_app (goodIn_of _ (by decide +kernel)) ggX4_toldByClever_X4_toldByBoy
theorem dX4_toldByClever_0 : decode cX4_toldByClever 0 = .ok (.aload_n 0, 1) := by decide +kernel
theorem dX4_toldByClever_1 : decode cX4_toldByClever 1 = .ok (.iconst 2, 1) := by decide +kernel
theorem dX4_toldByClever_2 : decode cX4_toldByClever 2 = .ok (.invokevirtual 201, 3) := by decide +kernel
theorem dX4_toldByClever_5 : decode cX4_toldByClever 5 = .ok (.aload_n 0, 1) := by decide +kernel
theorem dX4_toldByClever_6 : decode cX4_toldByClever 6 = .ok (.iload_n 1, 1) := by decide +kernel
theorem dX4_toldByClever_7 : decode cX4_toldByClever 7 = .ok (.invokevirtual 198, 3) := by decide +kernel
theorem dX4_toldByClever_10 : decode cX4_toldByClever 10 = .ok (.bipush 100, 2) := by decide +kernel
theorem dX4_toldByClever_12 : decode cX4_toldByClever 12 = .ok (.iadd, 1) := by decide +kernel
theorem dX4_toldByClever_13 : decode cX4_toldByClever 13 = .ok (.ireturn, 1) := by decide +kernel
set_option maxRecDepth 20000 in
theorem ggX4_toldByDunce_X4_leaveTrace : GoodIn wsX4_toldByDunce wsX4_leaveTrace := goodIn_r _ [5, 6, 16, 17, 18, 19, 20, 21, 22] (by decide +kernel) (by decide +kernel)
set_option maxRecDepth 20000 in
theorem gX4_toldByDunce_X4_leaveTrace : GoodIn wsX4_toldByDunce (wsV RX4 201 RX4 yX4_leaveTrace wsX4_leaveTrace) := goodIn_app (goodIn_of _ (by decide +kernel)) ggX4_toldByDunce_X4_leaveTrace
set_option maxRecDepth 20000 in
theorem ggX4_toldByDunce_X4_toldByClever : GoodIn wsX4_toldByDunce wsX4_toldByClever := goodIn_r _ [10, 1, 2, 3, 4, 5, 6, 11, 12, 13, 14, 15, 16, 17, 18, 19, 20, 21, 22, 23, 24, 25, 26, 27] (by decide +kernel) (by decide +kernel)
set_option maxRecDepth 20000 in
theorem gX4_toldByDunce_X4_toldByClever : GoodIn wsX4_toldByDunce (wsV RX4 192 RX4 yX4_toldByClever wsX4_toldByClever) := goodIn_app (goodIn_of _ (by decide +kernel)) ggX4_toldByDunce_X4_toldByClever
set_option maxRecDepth 20000 in
theorem ggX4_toldByDunce_X4_toldByBoy : GoodIn wsX4_toldByDunce wsX4_toldByBoy := goodIn_r _ [14, 15, 1, 2, 3, 4, 5, 6, 16, 17, 18, 19, 20, 21, 22, 23, 24, 25, 26, 27] (by decide +kernel) (by decide +kernel)
set_option maxRecDepth 20000 in
theorem gX4_toldByDunce_X4_toldByBoy : GoodIn wsX4_toldByDunce (wsV RX4 198 RX4 yX4_toldByBoy wsX4_toldByBoy) := goodIn_app (goodIn_of _ (by decide +kernel)) ggX4_toldByDunce_X4_toldByBoy
theorem dX4_toldByDunce_0 : decode cX4_toldByDunce 0 = .ok (.aload_n 0, 1) := by decide +kernel
theorem dX4_toldByDunce_1 : decode cX4_toldByDunce 1 = .ok (.iconst 3, 1) := by decide +kernel
theorem dX4_toldByDunce_2 : decode cX4_toldByDunce 2 = .ok (.invokevirtual 201, 3) := by decide +kernel
theorem dX4_toldByDunce_5 : decode cX4_toldByDunce 5 = .ok (.aload_n 0, 1) := by decide +kernel
theorem dX4_toldByDunce_6 : decode cX4_toldByDunce 6 = .ok (.iload_n 1, 1) := by decide +kernel
theorem dX4_toldByDunce_7 : decode cX4_toldByDunce 7 = .ok (.invokevirtual 192, 3) := by decide +kernel
theorem dX4_toldByDunce_10 : decode cX4_toldByDunce 10 = .ok (.istore_n 2, 1) := by decide +kernel
theorem dX4_toldByDunce_11 : decode cX4_toldByDunce 11 = .ok (.iload_n 2, 1) := by decide +kernel
theorem dX4_toldByDunce_12 : decode cX4_toldByDunce 12 = .ok (.aload_n 0, 1) := by decide +kernel
theorem dX4_toldByDunce_13 : decode cX4_toldByDunce 13 = .ok (.iload_n 1, 1) := by decide +kernel
theorem dX4_toldByDunce_14 : decode cX4_toldByDunce 14 = .ok (.invokevirtual 198, 3) := by decide +kernel
theorem dX4_toldByDunce_17 : decode cX4_toldByDunce 17 = .ok (.iadd, 1) := by decide +kernel
theorem dX4_toldByDunce_18 : decode cX4_toldByDunce 18 = .ok (.ireturn, 1) := by decide +kernel
set_option maxRecDepth 20000 in
theorem ggX4_call_X2_hasBoy : GoodIn wsX4_call wsX2_hasBoy := goodIn_r _ [6, 7, 21, 22, 23, 24, 25] (by decide +kernel) (by decide +kernel)
set_option maxRecDepth 20000 in
theorem gX4_call_X2_hasBoy : GoodIn wsX4_call (wsV RX4 79 RX2 yX2_hasBoy wsX2_hasBoy) := goodIn_app (goodIn_of _ (by decide +kernel)) ggX4_call_X2_hasBoy
set_option maxRecDepth 20000 in
theorem ggX4_call_X4_leaveTrace : GoodIn wsX4_call wsX4_leaveTrace := goodIn_r _ [12, 13, 14, 15, 16, 17, 18, 19, 20] (by decide +kernel) (by decide +kernel)
set_option maxRecDepth 20000 in
theorem gX4_call_X4_leaveTrace : GoodIn wsX4_call (wsV RX4 201 RX4 yX4_leaveTrace wsX4_leaveTrace) := goodIn_app (goodIn_of _ (by decide +kernel)) ggX4_call_X4_leaveTrace
theorem dX4_call_0 : decode cX4_call 0 = .ok (.aload_n 0, 1) := by decide +kernel
theorem dX4_call_1 : decode cX4_call 1 = .ok (.getfield 12, 3) := by decide +kernel
theorem dX4_call_4 : decode cX4_call 4 = .ok (.iload_n 1, 1) := by decide +kernel
theorem dX4_call_5 : decode cX4_call 5 = .ok (.invokevirtual 79, 3) := by decide +kernel
theorem dX4_call_8 : decode cX4_call 8 = .ok (.ifCond .ne 5, 3) := by decide +kernel
theorem dX4_call_11 : decode cX4_call 11 = .ok (.iconst (-1), 1) := by decide +kernel
theorem dX4_call_12 : decode cX4_call 12 = .ok (.ireturn, 1) := by decide +kernel
theorem dX4_call_13 : decode cX4_call 13 = .ok (.aload_n 0, 1) := by decide +kernel
theorem dX4_call_14 : decode cX4_call 14 = .ok (.getfield 12, 3) := by decide +kernel
theorem dX4_call_17 : decode cX4_call 17 = .ok (.getfield 82, 3) := by decide +kernel
theorem dX4_call_20 : decode cX4_call 20 = .ok (.iload_n 1, 1) := by decide +kernel
theorem dX4_call_21 : decode cX4_call 21 = .ok (.iaload, 1) := by decide +kernel
theorem dX4_call_22 : decode cX4_call 22 = .ok (.iconst 2, 1) := by decide +kernel
theorem dX4_call_23 : decode cX4_call 23 = .ok (.if_icmp .ne 11, 3) := by decide +kernel
theorem dX4_call_26 : decode cX4_call 26 = .ok (.aload_n 0, 1) := by decide +kernel
theorem dX4_call_27 : decode cX4_call 27 = .ok (.iconst 5, 1) := by decide +kernel
theorem dX4_call_28 : decode cX4_call 28 = .ok (.invokevirtual 201, 3) := by decide +kernel
theorem dX4_call_31 : decode cX4_call 31 = .ok (.bipush 20, 2) := by decide +kernel
theorem dX4_call_33 : decode cX4_call 33 = .ok (.ireturn, 1) := by decide +kernel
theorem dX4_call_34 : decode cX4_call 34 = .ok (.aload_n 0, 1) := by decide +kernel
theorem dX4_call_35 : decode cX4_call 35 = .ok (.iconst 4, 1) := by decide +kernel
theorem dX4_call_36 : decode cX4_call 36 = .ok (.invokevirtual 201, 3) := by decide +kernel
theorem dX4_call_39 : decode cX4_call 39 = .ok (.iload_n 1, 1) := by decide +kernel
theorem dX4_call_40 : decode cX4_call 40 = .ok (.ireturn, 1) := by decide +kernel
set_option maxRecDepth 20000 in
theorem ggX4_as_X2_hasBoy : GoodIn wsX4_as wsX2_hasBoy := goodIn_r _ [7, 8, 28, 29, 30, 31, 32] (by decide +kernel) (by decide +kernel)
set_option maxRecDepth 20000 in
theorem gX4_as_X2_hasBoy : GoodIn wsX4_as (wsV RX4 79 RX2 yX2_hasBoy wsX2_hasBoy) := goodIn_app (goodIn_of _ (by decide +kernel)) ggX4_as_X2_hasBoy
set_option maxRecDepth 20000 in
theorem ggX4_as_X4_refused : GoodIn wsX4_as wsX4_refused := goodIn_r _ [13, 2, 21, 22, 23, 24, 25, 26, 27] (by decide +kernel) (by decide +kernel)
set_option maxRecDepth 20000 in
theorem gX4_as_X4_refused : GoodIn wsX4_as (wsV RX4 49 RX4 yX4_refused wsX4_refused) := goodIn_app (goodIn_of _ (by decide +kernel)) ggX4_as_X4_refused
set_option maxRecDepth 20000 in
theorem ggX4_as_X4_isWithin : GoodIn wsX4_as wsX4_isWithin := goodIn_r _ [16] (by decide +kernel) (by decide +kernel)
set_option maxRecDepth 20000 in
theorem gX4_as_X4_isWithin : GoodIn wsX4_as (va_wsS RX4 103 yX4_isWithin wsX4_isWithin) := goodIn_app (goodIn_of _ (by decide +kernel)) ggX4_as_X4_isWithin
set_option maxRecDepth 20000 in
theorem ggX4_as_X4_faulted : GoodIn wsX4_as wsX4_faulted := goodIn_r _ [20, 2, 21, 22, 23, 24, 25, 26, 27] (by decide +kernel) (by decide +kernel)
set_option maxRecDepth 20000 in
theorem gX4_as_X4_faulted : GoodIn wsX4_as (wsV RX4 60 RX4 yX4_faulted wsX4_faulted) := goodIn_app (goodIn_of _ (by decide +kernel)) ggX4_as_X4_faulted
theorem dX4_as_0 : decode cX4_as 0 = .ok (.aload_n 0, 1) := by decide +kernel
theorem dX4_as_1 : decode cX4_as 1 = .ok (.getfield 12, 3) := by decide +kernel
theorem dX4_as_4 : decode cX4_as 4 = .ok (.iload_n 1, 1) := by decide +kernel
theorem dX4_as_5 : decode cX4_as 5 = .ok (.invokevirtual 79, 3) := by decide +kernel
theorem dX4_as_8 : decode cX4_as 8 = .ok (.ifCond .ne 9, 3) := by decide +kernel
theorem dX4_as_11 : decode cX4_as 11 = .ok (.aload_n 0, 1) := by decide +kernel
theorem dX4_as_12 : decode cX4_as 12 = .ok (.iconst (-1), 1) := by decide +kernel
theorem dX4_as_13 : decode cX4_as 13 = .ok (.invokevirtual 49, 3) := by decide +kernel
theorem dX4_as_16 : decode cX4_as 16 = .ok (.ireturn, 1) := by decide +kernel
theorem dX4_as_17 : decode cX4_as 17 = .ok (.iload_n 2, 1) := by decide +kernel
theorem dX4_as_18 : decode cX4_as 18 = .ok (.iconst 2, 1) := by decide +kernel
theorem dX4_as_19 : decode cX4_as 19 = .ok (.invokestatic 103, 3) := by decide +kernel
theorem dX4_as_22 : decode cX4_as 22 = .ok (.ifCond .ne 10, 3) := by decide +kernel
theorem dX4_as_25 : decode cX4_as 25 = .ok (.aload_n 0, 1) := by decide +kernel
theorem dX4_as_26 : decode cX4_as 26 = .ok (.bipush (-2), 2) := by decide +kernel
theorem dX4_as_28 : decode cX4_as 28 = .ok (.invokevirtual 49, 3) := by decide +kernel
theorem dX4_as_31 : decode cX4_as 31 = .ok (.ireturn, 1) := by decide +kernel
theorem dX4_as_32 : decode cX4_as 32 = .ok (.iload_n 2, 1) := by decide +kernel
theorem dX4_as_33 : decode cX4_as 33 = .ok (.aload_n 0, 1) := by decide +kernel
theorem dX4_as_34 : decode cX4_as 34 = .ok (.getfield 12, 3) := by decide +kernel
theorem dX4_as_37 : decode cX4_as 37 = .ok (.getfield 82, 3) := by decide +kernel
theorem dX4_as_40 : decode cX4_as 40 = .ok (.iload_n 1, 1) := by decide +kernel
theorem dX4_as_41 : decode cX4_as 41 = .ok (.iaload, 1) := by decide +kernel
theorem dX4_as_42 : decode cX4_as 42 = .ok (.if_icmp .le 9, 3) := by decide +kernel
theorem dX4_as_45 : decode cX4_as 45 = .ok (.aload_n 0, 1) := by decide +kernel
theorem dX4_as_46 : decode cX4_as 46 = .ok (.iconst 2, 1) := by decide +kernel
theorem dX4_as_47 : decode cX4_as 47 = .ok (.invokevirtual 60, 3) := by decide +kernel
theorem dX4_as_50 : decode cX4_as 50 = .ok (.ireturn, 1) := by decide +kernel
theorem dX4_as_51 : decode cX4_as 51 = .ok (.aload_n 0, 1) := by decide +kernel
theorem dX4_as_52 : decode cX4_as 52 = .ok (.iconst 0, 1) := by decide +kernel
theorem dX4_as_53 : decode cX4_as 53 = .ok (.putfield 40, 3) := by decide +kernel
theorem dX4_as_56 : decode cX4_as 56 = .ok (.iconst 1, 1) := by decide +kernel
theorem dX4_as_57 : decode cX4_as 57 = .ok (.ireturn, 1) := by decide +kernel
theorem dX4_trace_0 : decode cX4_trace 0 = .ok (.aload_n 0, 1) := by decide +kernel
theorem dX4_trace_1 : decode cX4_trace 1 = .ok (.getfield 37, 3) := by decide +kernel
theorem dX4_trace_4 : decode cX4_trace 4 = .ok (.ireturn, 1) := by decide +kernel
theorem dX4_fault_0 : decode cX4_fault 0 = .ok (.aload_n 0, 1) := by decide +kernel
theorem dX4_fault_1 : decode cX4_fault 1 = .ok (.getfield 40, 3) := by decide +kernel
theorem dX4_fault_4 : decode cX4_fault 4 = .ok (.ireturn, 1) := by decide +kernel
theorem dX4_many_0 : decode cX4_many 0 = .ok (.iload_n 1, 1) := by decide +kernel
theorem dX4_many_1 : decode cX4_many 1 = .ok (.tableswitch 48 0 2 #[27, 35, 43], 27) := by decide +kernel
theorem dX4_many_28 : decode cX4_many 28 = .ok (.aload_n 0, 1) := by decide +kernel
theorem dX4_many_29 : decode cX4_many 29 = .ok (.getfield 12, 3) := by decide +kernel
theorem dX4_many_32 : decode cX4_many 32 = .ok (.getfield 76, 3) := by decide +kernel
theorem dX4_many_35 : decode cX4_many 35 = .ok (.ireturn, 1) := by decide +kernel
theorem dX4_many_36 : decode cX4_many 36 = .ok (.aload_n 0, 1) := by decide +kernel
theorem dX4_many_37 : decode cX4_many 37 = .ok (.getfield 12, 3) := by decide +kernel
theorem dX4_many_40 : decode cX4_many 40 = .ok (.getfield 119, 3) := by decide +kernel
theorem dX4_many_43 : decode cX4_many 43 = .ok (.ireturn, 1) := by decide +kernel
theorem dX4_many_44 : decode cX4_many 44 = .ok (.aload_n 0, 1) := by decide +kernel
theorem dX4_many_45 : decode cX4_many 45 = .ok (.getfield 27, 3) := by decide +kernel
theorem dX4_many_48 : decode cX4_many 48 = .ok (.ireturn, 1) := by decide +kernel
theorem dX4_many_49 : decode cX4_many 49 = .ok (.bipush (-2), 2) := by decide +kernel
theorem dX4_many_51 : decode cX4_many 51 = .ok (.ireturn, 1) := by decide +kernel
theorem dX4_leaveTrace_0 : decode cX4_leaveTrace 0 = .ok (.aload_n 0, 1) := by decide +kernel
theorem dX4_leaveTrace_1 : decode cX4_leaveTrace 1 = .ok (.bipush 31, 2) := by decide +kernel
theorem dX4_leaveTrace_3 : decode cX4_leaveTrace 3 = .ok (.aload_n 0, 1) := by decide +kernel
theorem dX4_leaveTrace_4 : decode cX4_leaveTrace 4 = .ok (.getfield 37, 3) := by decide +kernel
theorem dX4_leaveTrace_7 : decode cX4_leaveTrace 7 = .ok (.imul, 1) := by decide +kernel
theorem dX4_leaveTrace_8 : decode cX4_leaveTrace 8 = .ok (.iload_n 1, 1) := by decide +kernel
theorem dX4_leaveTrace_9 : decode cX4_leaveTrace 9 = .ok (.iadd, 1) := by decide +kernel
theorem dX4_leaveTrace_10 : decode cX4_leaveTrace 10 = .ok (.putfield 37, 3) := by decide +kernel
theorem dX4_leaveTrace_13 : decode cX4_leaveTrace 13 = .ok (.return_, 1) := by decide +kernel
theorem dX4_refused_0 : decode cX4_refused 0 = .ok (.aload_n 0, 1) := by decide +kernel
theorem dX4_refused_1 : decode cX4_refused 1 = .ok (.iconst 0, 1) := by decide +kernel
theorem dX4_refused_2 : decode cX4_refused 2 = .ok (.putfield 40, 3) := by decide +kernel
theorem dX4_refused_5 : decode cX4_refused 5 = .ok (.iload_n 1, 1) := by decide +kernel
theorem dX4_refused_6 : decode cX4_refused 6 = .ok (.ireturn, 1) := by decide +kernel
theorem dX4_faulted_0 : decode cX4_faulted 0 = .ok (.aload_n 0, 1) := by decide +kernel
theorem dX4_faulted_1 : decode cX4_faulted 1 = .ok (.iload_n 1, 1) := by decide +kernel
theorem dX4_faulted_2 : decode cX4_faulted 2 = .ok (.putfield 40, 3) := by decide +kernel
theorem dX4_faulted_5 : decode cX4_faulted 5 = .ok (.bipush (-10), 2) := by decide +kernel
theorem dX4_faulted_7 : decode cX4_faulted 7 = .ok (.iload_n 1, 1) := by decide +kernel
theorem dX4_faulted_8 : decode cX4_faulted 8 = .ok (.isub, 1) := by decide +kernel
theorem dX4_faulted_9 : decode cX4_faulted 9 = .ok (.ireturn, 1) := by decide +kernel
theorem dX4_isWithin_0 : decode cX4_isWithin 0 = .ok (.iload_n 0, 1) := by decide +kernel
theorem dX4_isWithin_1 : decode cX4_isWithin 1 = .ok (.ifCond .lt 12, 3) := by decide +kernel
theorem dX4_isWithin_4 : decode cX4_isWithin 4 = .ok (.iload_n 0, 1) := by decide +kernel
theorem dX4_isWithin_5 : decode cX4_isWithin 5 = .ok (.iload_n 1, 1) := by decide +kernel
theorem dX4_isWithin_6 : decode cX4_isWithin 6 = .ok (.if_icmp .gt 7, 3) := by decide +kernel
theorem dX4_isWithin_9 : decode cX4_isWithin 9 = .ok (.iconst 1, 1) := by decide +kernel
theorem dX4_isWithin_10 : decode cX4_isWithin 10 = .ok (.goto 4, 3) := by decide +kernel
theorem dX4_isWithin_13 : decode cX4_isWithin 13 = .ok (.iconst 0, 1) := by decide +kernel
theorem dX4_isWithin_14 : decode cX4_isWithin 14 = .ok (.ireturn, 1) := by decide +kernel
theorem dX4_isSheet_0 : decode cX4_isSheet 0 = .ok (.iload_n 0, 1) := by decide +kernel
theorem dX4_isSheet_1 : decode cX4_isSheet 1 = .ok (.ifCond .lt 12, 3) := by decide +kernel
theorem dX4_isSheet_4 : decode cX4_isSheet 4 = .ok (.iload_n 0, 1) := by decide +kernel
theorem dX4_isSheet_5 : decode cX4_isSheet 5 = .ok (.iconst 4, 1) := by decide +kernel
theorem dX4_isSheet_6 : decode cX4_isSheet 6 = .ok (.if_icmp .ge 7, 3) := by decide +kernel
theorem dX4_isSheet_9 : decode cX4_isSheet 9 = .ok (.iconst 1, 1) := by decide +kernel
theorem dX4_isSheet_10 : decode cX4_isSheet 10 = .ok (.goto 4, 3) := by decide +kernel
theorem dX4_isSheet_13 : decode cX4_isSheet 13 = .ok (.iconst 0, 1) := by decide +kernel
theorem dX4_isSheet_14 : decode cX4_isSheet 14 = .ok (.ireturn, 1) := by decide +kernel
theorem dX4_isLane_0 : decode cX4_isLane 0 = .ok (.iload_n 0, 1) := by decide +kernel
theorem dX4_isLane_1 : decode cX4_isLane 1 = .ok (.ifCond .lt 12, 3) := by decide +kernel
theorem dX4_isLane_4 : decode cX4_isLane 4 = .ok (.iload_n 0, 1) := by decide +kernel
theorem dX4_isLane_5 : decode cX4_isLane 5 = .ok (.iconst 2, 1) := by decide +kernel
theorem dX4_isLane_6 : decode cX4_isLane 6 = .ok (.if_icmp .gt 7, 3) := by decide +kernel
theorem dX4_isLane_9 : decode cX4_isLane 9 = .ok (.iconst 1, 1) := by decide +kernel
theorem dX4_isLane_10 : decode cX4_isLane 10 = .ok (.goto 4, 3) := by decide +kernel
theorem dX4_isLane_13 : decode cX4_isLane 13 = .ok (.iconst 0, 1) := by decide +kernel
theorem dX4_isLane_14 : decode cX4_isLane 14 = .ok (.ireturn, 1) := by decide +kernel
theorem dX4_learning_0 : decode cX4_learning 0 = .ok (.iload_n 0, 1) := by decide +kernel
theorem dX4_learning_1 : decode cX4_learning 1 = .ok (.lookupswitch 32 #[(1, 27), (2, 30)], 27) := by decide +kernel
theorem dX4_learning_28 : decode cX4_learning 28 = .ok (.bipush 12, 2) := by decide +kernel
theorem dX4_learning_30 : decode cX4_learning 30 = .ok (.ireturn, 1) := by decide +kernel
theorem dX4_learning_31 : decode cX4_learning 31 = .ok (.iconst 4, 1) := by decide +kernel
theorem dX4_learning_32 : decode cX4_learning 32 = .ok (.ireturn, 1) := by decide +kernel
theorem dX4_learning_33 : decode cX4_learning 33 = .ok (.bipush 9, 2) := by decide +kernel
theorem dX4_learning_35 : decode cX4_learning 35 = .ok (.ireturn, 1) := by decide +kernel
theorem dX5_init_0 : decode cX5_init 0 = .ok (.aload_n 0, 1) := by decide +kernel
theorem dX5_init_1 : decode cX5_init 1 = .ok (.invokespecial 1, 3) := by decide +kernel
theorem dX5_init_4 : decode cX5_init 4 = .ok (.aload_n 0, 1) := by decide +kernel
theorem dX5_init_5 : decode cX5_init 5 = .ok (.iconst 4, 1) := by decide +kernel
theorem dX5_init_6 : decode cX5_init 6 = .ok (.newarray .int, 2) := by decide +kernel
theorem dX5_init_8 : decode cX5_init 8 = .ok (.dup, 1) := by decide +kernel
theorem dX5_init_9 : decode cX5_init 9 = .ok (.iconst 0, 1) := by decide +kernel
theorem dX5_init_10 : decode cX5_init 10 = .ok (.bipush (-9), 2) := by decide +kernel
theorem dX5_init_12 : decode cX5_init 12 = .ok (.iastore, 1) := by decide +kernel
theorem dX5_init_13 : decode cX5_init 13 = .ok (.dup, 1) := by decide +kernel
theorem dX5_init_14 : decode cX5_init 14 = .ok (.iconst 1, 1) := by decide +kernel
theorem dX5_init_15 : decode cX5_init 15 = .ok (.bipush (-9), 2) := by decide +kernel
theorem dX5_init_17 : decode cX5_init 17 = .ok (.iastore, 1) := by decide +kernel
theorem dX5_init_18 : decode cX5_init 18 = .ok (.dup, 1) := by decide +kernel
theorem dX5_init_19 : decode cX5_init 19 = .ok (.iconst 2, 1) := by decide +kernel
theorem dX5_init_20 : decode cX5_init 20 = .ok (.bipush (-9), 2) := by decide +kernel
theorem dX5_init_22 : decode cX5_init 22 = .ok (.iastore, 1) := by decide +kernel
theorem dX5_init_23 : decode cX5_init 23 = .ok (.dup, 1) := by decide +kernel
theorem dX5_init_24 : decode cX5_init 24 = .ok (.iconst 3, 1) := by decide +kernel
theorem dX5_init_25 : decode cX5_init 25 = .ok (.bipush (-9), 2) := by decide +kernel
theorem dX5_init_27 : decode cX5_init 27 = .ok (.iastore, 1) := by decide +kernel
theorem dX5_init_28 : decode cX5_init 28 = .ok (.putfield 9, 3) := by decide +kernel
theorem dX5_init_31 : decode cX5_init 31 = .ok (.aload_n 0, 1) := by decide +kernel
theorem dX5_init_32 : decode cX5_init 32 = .ok (.iconst 4, 1) := by decide +kernel
theorem dX5_init_33 : decode cX5_init 33 = .ok (.newarray .int, 2) := by decide +kernel
theorem dX5_init_35 : decode cX5_init 35 = .ok (.putfield 13, 3) := by decide +kernel
theorem dX5_init_38 : decode cX5_init 38 = .ok (.aload_n 0, 1) := by decide +kernel
theorem dX5_init_39 : decode cX5_init 39 = .ok (.sipush 240, 3) := by decide +kernel
theorem dX5_init_42 : decode cX5_init 42 = .ok (.newarray .int, 2) := by decide +kernel
theorem dX5_init_44 : decode cX5_init 44 = .ok (.putfield 16, 3) := by decide +kernel
theorem dX5_init_47 : decode cX5_init 47 = .ok (.aload_n 0, 1) := by decide +kernel
theorem dX5_init_48 : decode cX5_init 48 = .ok (.bipush 25, 2) := by decide +kernel
theorem dX5_init_50 : decode cX5_init 50 = .ok (.newarray .int, 2) := by decide +kernel
theorem dX5_init_52 : decode cX5_init 52 = .ok (.putfield 19, 3) := by decide +kernel
theorem dX5_init_55 : decode cX5_init 55 = .ok (.aload_n 0, 1) := by decide +kernel
theorem dX5_init_56 : decode cX5_init 56 = .ok (.iconst 4, 1) := by decide +kernel
theorem dX5_init_57 : decode cX5_init 57 = .ok (.newarray .int, 2) := by decide +kernel
theorem dX5_init_59 : decode cX5_init 59 = .ok (.putfield 22, 3) := by decide +kernel
theorem dX5_init_62 : decode cX5_init 62 = .ok (.aload_n 0, 1) := by decide +kernel
theorem dX5_init_63 : decode cX5_init 63 = .ok (.iconst 4, 1) := by decide +kernel
theorem dX5_init_64 : decode cX5_init 64 = .ok (.newarray .int, 2) := by decide +kernel
theorem dX5_init_66 : decode cX5_init 66 = .ok (.putfield 25, 3) := by decide +kernel
theorem dX5_init_69 : decode cX5_init 69 = .ok (.aload_n 0, 1) := by decide +kernel
theorem dX5_init_70 : decode cX5_init 70 = .ok (.bipush 25, 2) := by decide +kernel
theorem dX5_init_72 : decode cX5_init 72 = .ok (.newarray .int, 2) := by decide +kernel
theorem dX5_init_74 : decode cX5_init 74 = .ok (.putfield 28, 3) := by decide +kernel
theorem dX5_init_77 : decode cX5_init 77 = .ok (.aload_n 0, 1) := by decide +kernel
theorem dX5_init_78 : decode cX5_init 78 = .ok (.iconst 4, 1) := by decide +kernel
theorem dX5_init_79 : decode cX5_init 79 = .ok (.newarray .int, 2) := by decide +kernel
theorem dX5_init_81 : decode cX5_init 81 = .ok (.putfield 31, 3) := by decide +kernel
theorem dX5_init_84 : decode cX5_init 84 = .ok (.aload_n 0, 1) := by decide +kernel
theorem dX5_init_85 : decode cX5_init 85 = .ok (.iconst 4, 1) := by decide +kernel
theorem dX5_init_86 : decode cX5_init 86 = .ok (.newarray .int, 2) := by decide +kernel
theorem dX5_init_88 : decode cX5_init 88 = .ok (.putfield 34, 3) := by decide +kernel
theorem dX5_init_91 : decode cX5_init 91 = .ok (.aload_n 0, 1) := by decide +kernel
theorem dX5_init_92 : decode cX5_init 92 = .ok (.bipush 8, 2) := by decide +kernel
theorem dX5_init_94 : decode cX5_init 94 = .ok (.newarray .int, 2) := by decide +kernel
theorem dX5_init_96 : decode cX5_init 96 = .ok (.putfield 37, 3) := by decide +kernel
theorem dX5_init_99 : decode cX5_init 99 = .ok (.aload_n 0, 1) := by decide +kernel
theorem dX5_init_100 : decode cX5_init 100 = .ok (.bipush 8, 2) := by decide +kernel
theorem dX5_init_102 : decode cX5_init 102 = .ok (.newarray .int, 2) := by decide +kernel
theorem dX5_init_104 : decode cX5_init 104 = .ok (.putfield 40, 3) := by decide +kernel
theorem dX5_init_107 : decode cX5_init 107 = .ok (.aload_n 0, 1) := by decide +kernel
theorem dX5_init_108 : decode cX5_init 108 = .ok (.bipush 8, 2) := by decide +kernel
theorem dX5_init_110 : decode cX5_init 110 = .ok (.newarray .int, 2) := by decide +kernel
theorem dX5_init_112 : decode cX5_init 112 = .ok (.putfield 43, 3) := by decide +kernel
theorem dX5_init_115 : decode cX5_init 115 = .ok (.aload_n 0, 1) := by decide +kernel
theorem dX5_init_116 : decode cX5_init 116 = .ok (.bipush 8, 2) := by decide +kernel
theorem dX5_init_118 : decode cX5_init 118 = .ok (.newarray .int, 2) := by decide +kernel
theorem dX5_init_120 : decode cX5_init 120 = .ok (.putfield 46, 3) := by decide +kernel
theorem dX5_init_123 : decode cX5_init 123 = .ok (.aload_n 0, 1) := by decide +kernel
theorem dX5_init_124 : decode cX5_init 124 = .ok (.iconst 5, 1) := by decide +kernel
theorem dX5_init_125 : decode cX5_init 125 = .ok (.newarray .int, 2) := by decide +kernel
theorem dX5_init_127 : decode cX5_init 127 = .ok (.putfield 49, 3) := by decide +kernel
theorem dX5_init_130 : decode cX5_init 130 = .ok (.aload_n 0, 1) := by decide +kernel
theorem dX5_init_131 : decode cX5_init 131 = .ok (.iconst 5, 1) := by decide +kernel
theorem dX5_init_132 : decode cX5_init 132 = .ok (.newarray .int, 2) := by decide +kernel
theorem dX5_init_134 : decode cX5_init 134 = .ok (.putfield 52, 3) := by decide +kernel
theorem dX5_init_137 : decode cX5_init 137 = .ok (.return_, 1) := by decide +kernel
theorem dX5_fails_0 : decode cX5_fails 0 = .ok (.aload_n 0, 1) := by decide +kernel
theorem dX5_fails_1 : decode cX5_fails 1 = .ok (.iload_n 1, 1) := by decide +kernel
theorem dX5_fails_2 : decode cX5_fails 2 = .ok (.putfield 55, 3) := by decide +kernel
theorem dX5_fails_5 : decode cX5_fails 5 = .ok (.bipush (-10), 2) := by decide +kernel
theorem dX5_fails_7 : decode cX5_fails 7 = .ok (.iload_n 1, 1) := by decide +kernel
theorem dX5_fails_8 : decode cX5_fails 8 = .ok (.isub, 1) := by decide +kernel
theorem dX5_fails_9 : decode cX5_fails 9 = .ok (.ireturn, 1) := by decide +kernel
theorem dX5_lost_0 : decode cX5_lost 0 = .ok (.aload_n 0, 1) := by decide +kernel
theorem dX5_lost_1 : decode cX5_lost 1 = .ok (.iload_n 1, 1) := by decide +kernel
theorem dX5_lost_2 : decode cX5_lost 2 = .ok (.putfield 55, 3) := by decide +kernel
theorem dX5_lost_5 : decode cX5_lost 5 = .ok (.ldc2_w 59, 3) := by decide +kernel
theorem dX5_lost_8 : decode cX5_lost 8 = .ok (.lreturn, 1) := by decide +kernel
theorem dX5_within_0 : decode cX5_within 0 = .ok (.iload_n 0, 1) := by decide +kernel
theorem dX5_within_1 : decode cX5_within 1 = .ok (.iload_n 1, 1) := by decide +kernel
theorem dX5_within_2 : decode cX5_within 2 = .ok (.if_icmp .lt 12, 3) := by decide +kernel
theorem dX5_within_5 : decode cX5_within 5 = .ok (.iload_n 0, 1) := by decide +kernel
theorem dX5_within_6 : decode cX5_within 6 = .ok (.iload_n 2, 1) := by decide +kernel
theorem dX5_within_7 : decode cX5_within 7 = .ok (.if_icmp .gt 7, 3) := by decide +kernel
theorem dX5_within_10 : decode cX5_within 10 = .ok (.iconst 1, 1) := by decide +kernel
theorem dX5_within_11 : decode cX5_within 11 = .ok (.goto 4, 3) := by decide +kernel
theorem dX5_within_14 : decode cX5_within 14 = .ok (.iconst 0, 1) := by decide +kernel
theorem dX5_within_15 : decode cX5_within 15 = .ok (.ireturn, 1) := by decide +kernel
set_option maxRecDepth 20000 in
theorem ggX5_isSheet_X5_within : GoodIn wsX5_isSheet wsX5_within := goodIn_r _ [4] (by decide +kernel) (by decide +kernel)
set_option maxRecDepth 20000 in
theorem gX5_isSheet_X5_within : GoodIn wsX5_isSheet (va_wsS RX5 61 yX5_within wsX5_within) := goodIn_app (goodIn_of _ (by decide +kernel)) ggX5_isSheet_X5_within
theorem dX5_isSheet_0 : decode cX5_isSheet 0 = .ok (.iload_n 0, 1) := by decide +kernel
theorem dX5_isSheet_1 : decode cX5_isSheet 1 = .ok (.iconst 0, 1) := by decide +kernel
theorem dX5_isSheet_2 : decode cX5_isSheet 2 = .ok (.iconst 3, 1) := by decide +kernel
theorem dX5_isSheet_3 : decode cX5_isSheet 3 = .ok (.invokestatic 61, 3) := by decide +kernel
theorem dX5_isSheet_6 : decode cX5_isSheet 6 = .ok (.ireturn, 1) := by decide +kernel
set_option maxRecDepth 20000 in
theorem ggX5_isSort_X5_within : GoodIn wsX5_isSort wsX5_within := goodIn_r _ [4] (by decide +kernel) (by decide +kernel)
set_option maxRecDepth 20000 in
theorem gX5_isSort_X5_within : GoodIn wsX5_isSort (va_wsS RX5 61 yX5_within wsX5_within) := goodIn_app (goodIn_of _ (by decide +kernel)) ggX5_isSort_X5_within
theorem dX5_isSort_0 : decode cX5_isSort 0 = .ok (.iload_n 0, 1) := by decide +kernel
theorem dX5_isSort_1 : decode cX5_isSort 1 = .ok (.iconst 0, 1) := by decide +kernel
theorem dX5_isSort_2 : decode cX5_isSort 2 = .ok (.iconst 2, 1) := by decide +kernel
theorem dX5_isSort_3 : decode cX5_isSort 3 = .ok (.invokestatic 61, 3) := by decide +kernel
theorem dX5_isSort_6 : decode cX5_isSort 6 = .ok (.ireturn, 1) := by decide +kernel
theorem dX5_against_0 : decode cX5_against 0 = .ok (.aload_n 0, 1) := by decide +kernel
theorem dX5_against_1 : decode cX5_against 1 = .ok (.getfield 9, 3) := by decide +kernel
theorem dX5_against_4 : decode cX5_against 4 = .ok (.iload_n 1, 1) := by decide +kernel
theorem dX5_against_5 : decode cX5_against 5 = .ok (.iaload, 1) := by decide +kernel
theorem dX5_against_6 : decode cX5_against 6 = .ok (.bipush (-9), 2) := by decide +kernel
theorem dX5_against_8 : decode cX5_against 8 = .ok (.if_icmp .eq 15, 3) := by decide +kernel
theorem dX5_against_11 : decode cX5_against 11 = .ok (.aload_n 0, 1) := by decide +kernel
theorem dX5_against_12 : decode cX5_against 12 = .ok (.getfield 9, 3) := by decide +kernel
theorem dX5_against_15 : decode cX5_against 15 = .ok (.iload_n 1, 1) := by decide +kernel
theorem dX5_against_16 : decode cX5_against 16 = .ok (.iaload, 1) := by decide +kernel
theorem dX5_against_17 : decode cX5_against 17 = .ok (.iload_n 2, 1) := by decide +kernel
theorem dX5_against_18 : decode cX5_against 18 = .ok (.if_icmp .eq 5, 3) := by decide +kernel
theorem dX5_against_21 : decode cX5_against 21 = .ok (.iconst 2, 1) := by decide +kernel
theorem dX5_against_22 : decode cX5_against 22 = .ok (.ireturn, 1) := by decide +kernel
theorem dX5_against_23 : decode cX5_against 23 = .ok (.aload_n 0, 1) := by decide +kernel
theorem dX5_against_24 : decode cX5_against 24 = .ok (.getfield 9, 3) := by decide +kernel
theorem dX5_against_27 : decode cX5_against 27 = .ok (.iload_n 1, 1) := by decide +kernel
theorem dX5_against_28 : decode cX5_against 28 = .ok (.iaload, 1) := by decide +kernel
theorem dX5_against_29 : decode cX5_against 29 = .ok (.bipush (-9), 2) := by decide +kernel
theorem dX5_against_31 : decode cX5_against 31 = .ok (.if_icmp .ne 5, 3) := by decide +kernel
theorem dX5_against_34 : decode cX5_against 34 = .ok (.iconst 1, 1) := by decide +kernel
theorem dX5_against_35 : decode cX5_against 35 = .ok (.ireturn, 1) := by decide +kernel
theorem dX5_against_36 : decode cX5_against 36 = .ok (.iload 4, 2) := by decide +kernel
theorem dX5_against_38 : decode cX5_against 38 = .ok (.ifCond .ge 5, 3) := by decide +kernel
theorem dX5_against_41 : decode cX5_against 41 = .ok (.iconst 4, 1) := by decide +kernel
theorem dX5_against_42 : decode cX5_against 42 = .ok (.ireturn, 1) := by decide +kernel
theorem dX5_against_43 : decode cX5_against 43 = .ok (.iload_n 3, 1) := by decide +kernel
theorem dX5_against_44 : decode cX5_against 44 = .ok (.ifCond .lt 26, 3) := by decide +kernel
theorem dX5_against_47 : decode cX5_against 47 = .ok (.iload_n 3, 1) := by decide +kernel
theorem dX5_against_48 : decode cX5_against 48 = .ok (.aload_n 0, 1) := by decide +kernel
theorem dX5_against_49 : decode cX5_against 49 = .ok (.getfield 13, 3) := by decide +kernel
theorem dX5_against_52 : decode cX5_against 52 = .ok (.iload_n 1, 1) := by decide +kernel
theorem dX5_against_53 : decode cX5_against 53 = .ok (.iaload, 1) := by decide +kernel
theorem dX5_against_54 : decode cX5_against 54 = .ok (.if_icmp .gt 16, 3) := by decide +kernel
theorem dX5_against_57 : decode cX5_against 57 = .ok (.iload 4, 2) := by decide +kernel
theorem dX5_against_59 : decode cX5_against 59 = .ok (.aload_n 0, 1) := by decide +kernel
theorem dX5_against_60 : decode cX5_against 60 = .ok (.getfield 13, 3) := by decide +kernel
theorem dX5_against_63 : decode cX5_against 63 = .ok (.iload_n 1, 1) := by decide +kernel
theorem dX5_against_64 : decode cX5_against 64 = .ok (.iaload, 1) := by decide +kernel
theorem dX5_against_65 : decode cX5_against 65 = .ok (.iload_n 3, 1) := by decide +kernel
theorem dX5_against_66 : decode cX5_against 66 = .ok (.isub, 1) := by decide +kernel
theorem dX5_against_67 : decode cX5_against 67 = .ok (.if_icmp .le 7, 3) := by decide +kernel
theorem dX5_against_70 : decode cX5_against 70 = .ok (.iconst 3, 1) := by decide +kernel
theorem dX5_against_71 : decode cX5_against 71 = .ok (.goto 4, 3) := by decide +kernel
theorem dX5_against_74 : decode cX5_against 74 = .ok (.iconst 0, 1) := by decide +kernel
theorem dX5_against_75 : decode cX5_against 75 = .ok (.ireturn, 1) := by decide +kernel
theorem dX5_isMaster_0 : decode cX5_isMaster 0 = .ok (.iload_n 1, 1) := by decide +kernel
theorem dX5_isMaster_1 : decode cX5_isMaster 1 = .ok (.ifCond .lt 15, 3) := by decide +kernel
theorem dX5_isMaster_4 : decode cX5_isMaster 4 = .ok (.iload_n 1, 1) := by decide +kernel
theorem dX5_isMaster_5 : decode cX5_isMaster 5 = .ok (.aload_n 0, 1) := by decide +kernel
theorem dX5_isMaster_6 : decode cX5_isMaster 6 = .ok (.getfield 65, 3) := by decide +kernel
theorem dX5_isMaster_9 : decode cX5_isMaster 9 = .ok (.if_icmp .ge 7, 3) := by decide +kernel
theorem dX5_isMaster_12 : decode cX5_isMaster 12 = .ok (.iconst 1, 1) := by decide +kernel
theorem dX5_isMaster_13 : decode cX5_isMaster 13 = .ok (.goto 4, 3) := by decide +kernel
theorem dX5_isMaster_16 : decode cX5_isMaster 16 = .ok (.iconst 0, 1) := by decide +kernel
theorem dX5_isMaster_17 : decode cX5_isMaster 17 = .ok (.ireturn, 1) := by decide +kernel
theorem dX5_isBoy_0 : decode cX5_isBoy 0 = .ok (.iload_n 1, 1) := by decide +kernel
theorem dX5_isBoy_1 : decode cX5_isBoy 1 = .ok (.ifCond .lt 15, 3) := by decide +kernel
theorem dX5_isBoy_4 : decode cX5_isBoy 4 = .ok (.iload_n 1, 1) := by decide +kernel
theorem dX5_isBoy_5 : decode cX5_isBoy 5 = .ok (.aload_n 0, 1) := by decide +kernel
theorem dX5_isBoy_6 : decode cX5_isBoy 6 = .ok (.getfield 68, 3) := by decide +kernel
theorem dX5_isBoy_9 : decode cX5_isBoy 9 = .ok (.if_icmp .ge 7, 3) := by decide +kernel
theorem dX5_isBoy_12 : decode cX5_isBoy 12 = .ok (.iconst 1, 1) := by decide +kernel
theorem dX5_isBoy_13 : decode cX5_isBoy 13 = .ok (.goto 4, 3) := by decide +kernel
theorem dX5_isBoy_16 : decode cX5_isBoy 16 = .ok (.iconst 0, 1) := by decide +kernel
theorem dX5_isBoy_17 : decode cX5_isBoy 17 = .ok (.ireturn, 1) := by decide +kernel
theorem dX5_spot_0 : decode cX5_spot 0 = .ok (.iconst 5, 1) := by decide +kernel
theorem dX5_spot_1 : decode cX5_spot 1 = .ok (.iload_n 0, 1) := by decide +kernel
theorem dX5_spot_2 : decode cX5_spot 2 = .ok (.imul, 1) := by decide +kernel
theorem dX5_spot_3 : decode cX5_spot 3 = .ok (.iload_n 1, 1) := by decide +kernel
theorem dX5_spot_4 : decode cX5_spot 4 = .ok (.iadd, 1) := by decide +kernel
theorem dX5_spot_5 : decode cX5_spot 5 = .ok (.ireturn, 1) := by decide +kernel
set_option maxRecDepth 20000 in
theorem ggX5_digit_X5_within : GoodIn wsX5_digit wsX5_within := goodIn_r _ [6] (by decide +kernel) (by decide +kernel)
set_option maxRecDepth 20000 in
theorem gX5_digit_X5_within : GoodIn wsX5_digit (va_wsS RX5 61 yX5_within wsX5_within) := goodIn_app (goodIn_of _ (by decide +kernel)) ggX5_digit_X5_within
theorem dX5_digit_0 : decode cX5_digit 0 = .ok (.aload_n 0, 1) := by decide +kernel
theorem dX5_digit_1 : decode cX5_digit 1 = .ok (.getfield 71, 3) := by decide +kernel
theorem dX5_digit_4 : decode cX5_digit 4 = .ok (.iload_n 1, 1) := by decide +kernel
theorem dX5_digit_5 : decode cX5_digit 5 = .ok (.if_icmp .ge 26, 3) := by decide +kernel
theorem dX5_digit_8 : decode cX5_digit 8 = .ok (.aload_n 0, 1) := by decide +kernel
theorem dX5_digit_9 : decode cX5_digit 9 = .ok (.getfield 16, 3) := by decide +kernel
theorem dX5_digit_12 : decode cX5_digit 12 = .ok (.aload_n 0, 1) := by decide +kernel
theorem dX5_digit_13 : decode cX5_digit 13 = .ok (.getfield 71, 3) := by decide +kernel
theorem dX5_digit_16 : decode cX5_digit 16 = .ok (.iaload, 1) := by decide +kernel
theorem dX5_digit_17 : decode cX5_digit 17 = .ok (.bipush 48, 2) := by decide +kernel
theorem dX5_digit_19 : decode cX5_digit 19 = .ok (.iload_n 2, 1) := by decide +kernel
theorem dX5_digit_20 : decode cX5_digit 20 = .ok (.iadd, 1) := by decide +kernel
theorem dX5_digit_21 : decode cX5_digit 21 = .ok (.bipush 48, 2) := by decide +kernel
theorem dX5_digit_23 : decode cX5_digit 23 = .ok (.iload_n 3, 1) := by decide +kernel
theorem dX5_digit_24 : decode cX5_digit 24 = .ok (.iadd, 1) := by decide +kernel
theorem dX5_digit_25 : decode cX5_digit 25 = .ok (.invokestatic 61, 3) := by decide +kernel
theorem dX5_digit_28 : decode cX5_digit 28 = .ok (.ifCond .ne 6, 3) := by decide +kernel
theorem dX5_digit_31 : decode cX5_digit 31 = .ok (.bipush (-9), 2) := by decide +kernel
theorem dX5_digit_33 : decode cX5_digit 33 = .ok (.ireturn, 1) := by decide +kernel
theorem dX5_digit_34 : decode cX5_digit 34 = .ok (.aload_n 0, 1) := by decide +kernel
theorem dX5_digit_35 : decode cX5_digit 35 = .ok (.dup, 1) := by decide +kernel
theorem dX5_digit_36 : decode cX5_digit 36 = .ok (.getfield 71, 3) := by decide +kernel
theorem dX5_digit_39 : decode cX5_digit 39 = .ok (.iconst 1, 1) := by decide +kernel
theorem dX5_digit_40 : decode cX5_digit 40 = .ok (.iadd, 1) := by decide +kernel
theorem dX5_digit_41 : decode cX5_digit 41 = .ok (.putfield 71, 3) := by decide +kernel
theorem dX5_digit_44 : decode cX5_digit 44 = .ok (.aload_n 0, 1) := by decide +kernel
theorem dX5_digit_45 : decode cX5_digit 45 = .ok (.getfield 16, 3) := by decide +kernel
theorem dX5_digit_48 : decode cX5_digit 48 = .ok (.aload_n 0, 1) := by decide +kernel
theorem dX5_digit_49 : decode cX5_digit 49 = .ok (.getfield 71, 3) := by decide +kernel
theorem dX5_digit_52 : decode cX5_digit 52 = .ok (.iconst 1, 1) := by decide +kernel
theorem dX5_digit_53 : decode cX5_digit 53 = .ok (.isub, 1) := by decide +kernel
theorem dX5_digit_54 : decode cX5_digit 54 = .ok (.iaload, 1) := by decide +kernel
theorem dX5_digit_55 : decode cX5_digit 55 = .ok (.bipush 48, 2) := by decide +kernel
theorem dX5_digit_57 : decode cX5_digit 57 = .ok (.isub, 1) := by decide +kernel
theorem dX5_digit_58 : decode cX5_digit 58 = .ok (.ireturn, 1) := by decide +kernel
theorem dX5_isSign_0 : decode cX5_isSign 0 = .ok (.aload_n 0, 1) := by decide +kernel
theorem dX5_isSign_1 : decode cX5_isSign 1 = .ok (.getfield 71, 3) := by decide +kernel
theorem dX5_isSign_4 : decode cX5_isSign 4 = .ok (.iload_n 1, 1) := by decide +kernel
theorem dX5_isSign_5 : decode cX5_isSign 5 = .ok (.if_icmp .ge 16, 3) := by decide +kernel
theorem dX5_isSign_8 : decode cX5_isSign 8 = .ok (.aload_n 0, 1) := by decide +kernel
theorem dX5_isSign_9 : decode cX5_isSign 9 = .ok (.getfield 16, 3) := by decide +kernel
theorem dX5_isSign_12 : decode cX5_isSign 12 = .ok (.aload_n 0, 1) := by decide +kernel
theorem dX5_isSign_13 : decode cX5_isSign 13 = .ok (.getfield 71, 3) := by decide +kernel
theorem dX5_isSign_16 : decode cX5_isSign 16 = .ok (.iaload, 1) := by decide +kernel
theorem dX5_isSign_17 : decode cX5_isSign 17 = .ok (.iload_n 2, 1) := by decide +kernel
theorem dX5_isSign_18 : decode cX5_isSign 18 = .ok (.if_icmp .eq 5, 3) := by decide +kernel
theorem dX5_isSign_21 : decode cX5_isSign 21 = .ok (.iconst 0, 1) := by decide +kernel
theorem dX5_isSign_22 : decode cX5_isSign 22 = .ok (.ireturn, 1) := by decide +kernel
theorem dX5_isSign_23 : decode cX5_isSign 23 = .ok (.aload_n 0, 1) := by decide +kernel
theorem dX5_isSign_24 : decode cX5_isSign 24 = .ok (.dup, 1) := by decide +kernel
theorem dX5_isSign_25 : decode cX5_isSign 25 = .ok (.getfield 71, 3) := by decide +kernel
theorem dX5_isSign_28 : decode cX5_isSign 28 = .ok (.iconst 1, 1) := by decide +kernel
theorem dX5_isSign_29 : decode cX5_isSign 29 = .ok (.iadd, 1) := by decide +kernel
theorem dX5_isSign_30 : decode cX5_isSign 30 = .ok (.putfield 71, 3) := by decide +kernel
theorem dX5_isSign_33 : decode cX5_isSign 33 = .ok (.iconst 1, 1) := by decide +kernel
theorem dX5_isSign_34 : decode cX5_isSign 34 = .ok (.ireturn, 1) := by decide +kernel
set_option maxRecDepth 20000 in
theorem ggX5_town_X5_isSheet : GoodIn wsX5_town wsX5_isSheet := goodIn_r _ [17, 18, 19, 16, 20] (by decide +kernel) (by decide +kernel)
set_option maxRecDepth 20000 in
theorem gX5_town_X5_isSheet : GoodIn wsX5_town (va_wsS RX5 74 yX5_isSheet wsX5_isSheet) := goodIn_app (goodIn_of _ (by decide +kernel)) ggX5_town_X5_isSheet
set_option maxRecDepth 20000 in
theorem ggX5_town_X5_isSort : GoodIn wsX5_town wsX5_isSort := goodIn_r _ [23, 18, 19, 16, 20] (by decide +kernel) (by decide +kernel)
set_option maxRecDepth 20000 in
theorem gX5_town_X5_isSort : GoodIn wsX5_town (va_wsS RX5 78 yX5_isSort wsX5_isSort) := goodIn_app (goodIn_of _ (by decide +kernel)) ggX5_town_X5_isSort
set_option maxRecDepth 20000 in
theorem ggX5_town_X5_against : GoodIn wsX5_town wsX5_against := goodIn_r _ [27, 28, 29, 58, 59, 60, 61, 62, 63, 64, 65, 66, 67, 68, 69, 70, 71, 72, 73, 74, 75, 76, 77, 78, 79, 80, 81, 82] (by decide +kernel) (by decide +kernel)
set_option maxRecDepth 20000 in
theorem gX5_town_X5_against : GoodIn wsX5_town (wsV RX5 81 RX5 yX5_against wsX5_against) := goodIn_app (goodIn_of _ (by decide +kernel)) ggX5_town_X5_against
set_option maxRecDepth 20000 in
theorem ggX5_town_X5_fails : GoodIn wsX5_town wsX5_fails := goodIn_r _ [33, 1, 58, 59, 60, 61, 62, 63, 64, 65, 66, 67, 68, 69, 70, 71, 72, 73, 74, 75, 76, 77, 78, 79, 80, 81, 82] (by decide +kernel) (by decide +kernel)
set_option maxRecDepth 20000 in
theorem gX5_town_X5_fails : GoodIn wsX5_town (wsV RX5 85 RX5 yX5_fails wsX5_fails) := goodIn_app (goodIn_of _ (by decide +kernel)) ggX5_town_X5_fails
set_option maxRecDepth 20000 in
theorem ggX5_town_X5_readTown : GoodIn wsX5_town wsX5_readTown := goodIn_r _ [37, 5, 3, 2, 38, 39, 40, 16, 41, 42, 43, 44, 45, 46, 18, 19, 20, 47, 48, 49, 50, 8, 51, 52, 53, 54, 55, 56, 57, 10, 12, 58, 59, 60, 61, 62, 63, 64, 65, 66, 67, 68, 69, 70, 71, 72, 73, 74, 75, 76, 77, 78, 79, 80, 81, 82] (by decide +kernel) (by decide +kernel)
set_option maxRecDepth 20000 in
theorem gX5_town_X5_readTown : GoodIn wsX5_town (wsV RX5 89 RX5 yX5_readTown wsX5_readTown) := goodIn_app (goodIn_of _ (by decide +kernel)) ggX5_town_X5_readTown
theorem dX5_town_0 : decode cX5_town 0 = .ok (.aload_n 0, 1) := by decide +kernel
theorem dX5_town_1 : decode cX5_town 1 = .ok (.iconst 0, 1) := by decide +kernel
theorem dX5_town_2 : decode cX5_town 2 = .ok (.putfield 55, 3) := by decide +kernel
theorem dX5_town_5 : decode cX5_town 5 = .ok (.iload_n 1, 1) := by decide +kernel
theorem dX5_town_6 : decode cX5_town 6 = .ok (.invokestatic 74, 3) := by decide +kernel
theorem dX5_town_9 : decode cX5_town 9 = .ok (.ifCond .ne 5, 3) := by decide +kernel
theorem dX5_town_12 : decode cX5_town 12 = .ok (.iconst (-1), 1) := by decide +kernel
theorem dX5_town_13 : decode cX5_town 13 = .ok (.ireturn, 1) := by decide +kernel
theorem dX5_town_14 : decode cX5_town 14 = .ok (.iload_n 2, 1) := by decide +kernel
theorem dX5_town_15 : decode cX5_town 15 = .ok (.invokestatic 78, 3) := by decide +kernel
theorem dX5_town_18 : decode cX5_town 18 = .ok (.ifCond .ne 6, 3) := by decide +kernel
theorem dX5_town_21 : decode cX5_town 21 = .ok (.bipush (-2), 2) := by decide +kernel
theorem dX5_town_23 : decode cX5_town 23 = .ok (.ireturn, 1) := by decide +kernel
theorem dX5_town_24 : decode cX5_town 24 = .ok (.aload_n 0, 1) := by decide +kernel
theorem dX5_town_25 : decode cX5_town 25 = .ok (.iload_n 1, 1) := by decide +kernel
theorem dX5_town_26 : decode cX5_town 26 = .ok (.iload_n 2, 1) := by decide +kernel
theorem dX5_town_27 : decode cX5_town 27 = .ok (.iload_n 3, 1) := by decide +kernel
theorem dX5_town_28 : decode cX5_town 28 = .ok (.iload 4, 2) := by decide +kernel
theorem dX5_town_30 : decode cX5_town 30 = .ok (.invokevirtual 81, 3) := by decide +kernel
theorem dX5_town_33 : decode cX5_town 33 = .ok (.istore 5, 2) := by decide +kernel
theorem dX5_town_35 : decode cX5_town 35 = .ok (.iload 5, 2) := by decide +kernel
theorem dX5_town_37 : decode cX5_town 37 = .ok (.ifCond .eq 10, 3) := by decide +kernel
theorem dX5_town_40 : decode cX5_town 40 = .ok (.aload_n 0, 1) := by decide +kernel
theorem dX5_town_41 : decode cX5_town 41 = .ok (.iload 5, 2) := by decide +kernel
theorem dX5_town_43 : decode cX5_town 43 = .ok (.invokevirtual 85, 3) := by decide +kernel
theorem dX5_town_46 : decode cX5_town 46 = .ok (.ireturn, 1) := by decide +kernel
theorem dX5_town_47 : decode cX5_town 47 = .ok (.bipush 60, 2) := by decide +kernel
theorem dX5_town_49 : decode cX5_town 49 = .ok (.iload_n 1, 1) := by decide +kernel
theorem dX5_town_50 : decode cX5_town 50 = .ok (.imul, 1) := by decide +kernel
theorem dX5_town_51 : decode cX5_town 51 = .ok (.iload_n 3, 1) := by decide +kernel
theorem dX5_town_52 : decode cX5_town 52 = .ok (.iadd, 1) := by decide +kernel
theorem dX5_town_53 : decode cX5_town 53 = .ok (.istore 6, 2) := by decide +kernel
theorem dX5_town_55 : decode cX5_town 55 = .ok (.aload_n 0, 1) := by decide +kernel
theorem dX5_town_56 : decode cX5_town 56 = .ok (.iload 6, 2) := by decide +kernel
theorem dX5_town_58 : decode cX5_town 58 = .ok (.putfield 71, 3) := by decide +kernel
theorem dX5_town_61 : decode cX5_town 61 = .ok (.aload_n 0, 1) := by decide +kernel
theorem dX5_town_62 : decode cX5_town 62 = .ok (.iload 6, 2) := by decide +kernel
theorem dX5_town_64 : decode cX5_town 64 = .ok (.iload 4, 2) := by decide +kernel
theorem dX5_town_66 : decode cX5_town 66 = .ok (.iadd, 1) := by decide +kernel
theorem dX5_town_67 : decode cX5_town 67 = .ok (.invokevirtual 89, 3) := by decide +kernel
theorem dX5_town_70 : decode cX5_town 70 = .ok (.ifCond .ne 14, 3) := by decide +kernel
theorem dX5_town_73 : decode cX5_town 73 = .ok (.bipush (-100), 2) := by decide +kernel
theorem dX5_town_75 : decode cX5_town 75 = .ok (.aload_n 0, 1) := by decide +kernel
theorem dX5_town_76 : decode cX5_town 76 = .ok (.getfield 71, 3) := by decide +kernel
theorem dX5_town_79 : decode cX5_town 79 = .ok (.iload 6, 2) := by decide +kernel
theorem dX5_town_81 : decode cX5_town 81 = .ok (.isub, 1) := by decide +kernel
theorem dX5_town_82 : decode cX5_town 82 = .ok (.isub, 1) := by decide +kernel
theorem dX5_town_83 : decode cX5_town 83 = .ok (.ireturn, 1) := by decide +kernel
theorem dX5_town_84 : decode cX5_town 84 = .ok (.aload_n 0, 1) := by decide +kernel
theorem dX5_town_85 : decode cX5_town 85 = .ok (.aload_n 0, 1) := by decide +kernel
theorem dX5_town_86 : decode cX5_town 86 = .ok (.getfield 92, 3) := by decide +kernel
theorem dX5_town_89 : decode cX5_town 89 = .ok (.putfield 65, 3) := by decide +kernel
theorem dX5_town_92 : decode cX5_town 92 = .ok (.aload_n 0, 1) := by decide +kernel
theorem dX5_town_93 : decode cX5_town 93 = .ok (.aload_n 0, 1) := by decide +kernel
theorem dX5_town_94 : decode cX5_town 94 = .ok (.getfield 95, 3) := by decide +kernel
theorem dX5_town_97 : decode cX5_town 97 = .ok (.putfield 68, 3) := by decide +kernel
theorem dX5_town_100 : decode cX5_town 100 = .ok (.iconst 0, 1) := by decide +kernel
theorem dX5_town_101 : decode cX5_town 101 = .ok (.istore 7, 2) := by decide +kernel
theorem dX5_town_103 : decode cX5_town 103 = .ok (.iload 7, 2) := by decide +kernel
theorem dX5_town_105 : decode cX5_town 105 = .ok (.bipush 25, 2) := by decide +kernel
theorem dX5_town_107 : decode cX5_town 107 = .ok (.if_icmp .ge 23, 3) := by decide +kernel
theorem dX5_town_110 : decode cX5_town 110 = .ok (.aload_n 0, 1) := by decide +kernel
theorem dX5_town_111 : decode cX5_town 111 = .ok (.getfield 19, 3) := by decide +kernel
theorem dX5_town_114 : decode cX5_town 114 = .ok (.iload 7, 2) := by decide +kernel
theorem dX5_town_116 : decode cX5_town 116 = .ok (.aload_n 0, 1) := by decide +kernel
theorem dX5_town_117 : decode cX5_town 117 = .ok (.getfield 28, 3) := by decide +kernel
theorem dX5_town_120 : decode cX5_town 120 = .ok (.iload 7, 2) := by decide +kernel
theorem dX5_town_122 : decode cX5_town 122 = .ok (.iaload, 1) := by decide +kernel
theorem dX5_town_123 : decode cX5_town 123 = .ok (.iastore, 1) := by decide +kernel
theorem dX5_town_124 : decode cX5_town 124 = .ok (.iinc 7 1, 3) := by decide +kernel
theorem dX5_town_127 : decode cX5_town 127 = .ok (.goto (-24), 3) := by decide +kernel
theorem dX5_town_130 : decode cX5_town 130 = .ok (.iconst 0, 1) := by decide +kernel
theorem dX5_town_131 : decode cX5_town 131 = .ok (.istore 7, 2) := by decide +kernel
theorem dX5_town_133 : decode cX5_town 133 = .ok (.iload 7, 2) := by decide +kernel
theorem dX5_town_135 : decode cX5_town 135 = .ok (.aload_n 0, 1) := by decide +kernel
theorem dX5_town_136 : decode cX5_town 136 = .ok (.getfield 68, 3) := by decide +kernel
theorem dX5_town_139 : decode cX5_town 139 = .ok (.if_icmp .ge 37, 3) := by decide +kernel
theorem dX5_town_142 : decode cX5_town 142 = .ok (.aload_n 0, 1) := by decide +kernel
theorem dX5_town_143 : decode cX5_town 143 = .ok (.getfield 22, 3) := by decide +kernel
theorem dX5_town_146 : decode cX5_town 146 = .ok (.iload 7, 2) := by decide +kernel
theorem dX5_town_148 : decode cX5_town 148 = .ok (.aload_n 0, 1) := by decide +kernel
theorem dX5_town_149 : decode cX5_town 149 = .ok (.getfield 31, 3) := by decide +kernel
theorem dX5_town_152 : decode cX5_town 152 = .ok (.iload 7, 2) := by decide +kernel
theorem dX5_town_154 : decode cX5_town 154 = .ok (.iaload, 1) := by decide +kernel
theorem dX5_town_155 : decode cX5_town 155 = .ok (.iastore, 1) := by decide +kernel
theorem dX5_town_156 : decode cX5_town 156 = .ok (.aload_n 0, 1) := by decide +kernel
theorem dX5_town_157 : decode cX5_town 157 = .ok (.getfield 25, 3) := by decide +kernel
theorem dX5_town_160 : decode cX5_town 160 = .ok (.iload 7, 2) := by decide +kernel
theorem dX5_town_162 : decode cX5_town 162 = .ok (.aload_n 0, 1) := by decide +kernel
theorem dX5_town_163 : decode cX5_town 163 = .ok (.getfield 34, 3) := by decide +kernel
theorem dX5_town_166 : decode cX5_town 166 = .ok (.iload 7, 2) := by decide +kernel
theorem dX5_town_168 : decode cX5_town 168 = .ok (.iaload, 1) := by decide +kernel
theorem dX5_town_169 : decode cX5_town 169 = .ok (.iastore, 1) := by decide +kernel
theorem dX5_town_170 : decode cX5_town 170 = .ok (.iinc 7 1, 3) := by decide +kernel
theorem dX5_town_173 : decode cX5_town 173 = .ok (.goto (-40), 3) := by decide +kernel
theorem dX5_town_176 : decode cX5_town 176 = .ok (.aload_n 0, 1) := by decide +kernel
theorem dX5_town_177 : decode cX5_town 177 = .ok (.iconst 0, 1) := by decide +kernel
theorem dX5_town_178 : decode cX5_town 178 = .ok (.putfield 98, 3) := by decide +kernel
theorem dX5_town_181 : decode cX5_town 181 = .ok (.aload_n 0, 1) := by decide +kernel
theorem dX5_town_182 : decode cX5_town 182 = .ok (.getfield 68, 3) := by decide +kernel
theorem dX5_town_185 : decode cX5_town 185 = .ok (.ireturn, 1) := by decide +kernel
set_option maxRecDepth 20000 in
theorem ggX5_readTown_X5_isSign : GoodIn wsX5_readTown wsX5_isSign := goodIn_r _ [8, 3, 9, 31, 32, 33, 34, 35, 36, 37, 38, 39, 40, 41, 42, 43, 44, 45, 46, 47, 48, 49, 50, 51, 52, 53, 54, 55] (by decide +kernel) (by decide +kernel)
set_option maxRecDepth 20000 in
theorem gX5_readTown_X5_isSign : GoodIn wsX5_readTown (wsV RX5 101 RX5 yX5_isSign wsX5_isSign) := goodIn_app (goodIn_of _ (by decide +kernel)) ggX5_readTown_X5_isSign
set_option maxRecDepth 20000 in
theorem ggX5_readTown_X5_digit : GoodIn wsX5_readTown wsX5_digit := goodIn_r _ [13, 3, 9, 14, 15, 7, 16, 31, 32, 33, 34, 35, 36, 37, 38, 39, 40, 41, 42, 43, 44, 45, 46, 47, 48, 49, 50, 51, 52, 53, 54, 55] (by decide +kernel) (by decide +kernel)
set_option maxRecDepth 20000 in
theorem gX5_readTown_X5_digit : GoodIn wsX5_readTown (wsV RX5 105 RX5 yX5_digit wsX5_digit) := goodIn_app (goodIn_of _ (by decide +kernel)) ggX5_readTown_X5_digit
set_option maxRecDepth 20000 in
theorem ggX5_readTown_X5_readMaster : GoodIn wsX5_readTown wsX5_readMaster := goodIn_r _ [20, 2, 21, 22, 23, 7, 24, 10, 11, 12, 13, 3, 9, 14, 15, 16, 31, 32, 33, 34, 35, 36, 37, 38, 39, 40, 41, 42, 43, 44, 45, 46, 47, 48, 49, 50, 51, 52, 53, 54, 55] (by decide +kernel) (by decide +kernel)
set_option maxRecDepth 20000 in
theorem gX5_readTown_X5_readMaster : GoodIn wsX5_readTown (wsV RX5 109 RX5 yX5_readMaster wsX5_readMaster) := goodIn_app (goodIn_of _ (by decide +kernel)) ggX5_readTown_X5_readMaster
set_option maxRecDepth 20000 in
theorem ggX5_readTown_X5_readBoy : GoodIn wsX5_readTown wsX5_readBoy := goodIn_r _ [28, 3, 9, 29, 1, 30, 2, 10, 11, 12, 7, 13, 14, 15, 16, 31, 32, 33, 34, 35, 36, 37, 38, 39, 40, 41, 42, 43, 44, 45, 46, 47, 48, 49, 50, 51, 52, 53, 54, 55] (by decide +kernel) (by decide +kernel)
set_option maxRecDepth 20000 in
theorem gX5_readTown_X5_readBoy : GoodIn wsX5_readTown (wsV RX5 112 RX5 yX5_readBoy wsX5_readBoy) := goodIn_app (goodIn_of _ (by decide +kernel)) ggX5_readTown_X5_readBoy
theorem dX5_readTown_0 : decode cX5_readTown 0 = .ok (.aload_n 0, 1) := by decide +kernel
theorem dX5_readTown_1 : decode cX5_readTown 1 = .ok (.iconst 0, 1) := by decide +kernel
theorem dX5_readTown_2 : decode cX5_readTown 2 = .ok (.putfield 95, 3) := by decide +kernel
theorem dX5_readTown_5 : decode cX5_readTown 5 = .ok (.aload_n 0, 1) := by decide +kernel
theorem dX5_readTown_6 : decode cX5_readTown 6 = .ok (.iload_n 1, 1) := by decide +kernel
theorem dX5_readTown_7 : decode cX5_readTown 7 = .ok (.bipush 106, 2) := by decide +kernel
theorem dX5_readTown_9 : decode cX5_readTown 9 = .ok (.invokevirtual 101, 3) := by decide +kernel
theorem dX5_readTown_12 : decode cX5_readTown 12 = .ok (.ifCond .ne 5, 3) := by decide +kernel
theorem dX5_readTown_15 : decode cX5_readTown 15 = .ok (.iconst 0, 1) := by decide +kernel
theorem dX5_readTown_16 : decode cX5_readTown 16 = .ok (.ireturn, 1) := by decide +kernel
theorem dX5_readTown_17 : decode cX5_readTown 17 = .ok (.aload_n 0, 1) := by decide +kernel
theorem dX5_readTown_18 : decode cX5_readTown 18 = .ok (.aload_n 0, 1) := by decide +kernel
theorem dX5_readTown_19 : decode cX5_readTown 19 = .ok (.iload_n 1, 1) := by decide +kernel
theorem dX5_readTown_20 : decode cX5_readTown 20 = .ok (.iconst 2, 1) := by decide +kernel
theorem dX5_readTown_21 : decode cX5_readTown 21 = .ok (.iconst 5, 1) := by decide +kernel
theorem dX5_readTown_22 : decode cX5_readTown 22 = .ok (.invokevirtual 105, 3) := by decide +kernel
theorem dX5_readTown_25 : decode cX5_readTown 25 = .ok (.putfield 92, 3) := by decide +kernel
theorem dX5_readTown_28 : decode cX5_readTown 28 = .ok (.aload_n 0, 1) := by decide +kernel
theorem dX5_readTown_29 : decode cX5_readTown 29 = .ok (.getfield 92, 3) := by decide +kernel
theorem dX5_readTown_32 : decode cX5_readTown 32 = .ok (.bipush (-9), 2) := by decide +kernel
theorem dX5_readTown_34 : decode cX5_readTown 34 = .ok (.if_icmp .ne 5, 3) := by decide +kernel
theorem dX5_readTown_37 : decode cX5_readTown 37 = .ok (.iconst 0, 1) := by decide +kernel
theorem dX5_readTown_38 : decode cX5_readTown 38 = .ok (.ireturn, 1) := by decide +kernel
theorem dX5_readTown_39 : decode cX5_readTown 39 = .ok (.iconst 0, 1) := by decide +kernel
theorem dX5_readTown_40 : decode cX5_readTown 40 = .ok (.istore_n 2, 1) := by decide +kernel
theorem dX5_readTown_41 : decode cX5_readTown 41 = .ok (.iload_n 2, 1) := by decide +kernel
theorem dX5_readTown_42 : decode cX5_readTown 42 = .ok (.aload_n 0, 1) := by decide +kernel
theorem dX5_readTown_43 : decode cX5_readTown 43 = .ok (.getfield 92, 3) := by decide +kernel
theorem dX5_readTown_46 : decode cX5_readTown 46 = .ok (.if_icmp .ge 30, 3) := by decide +kernel
theorem dX5_readTown_49 : decode cX5_readTown 49 = .ok (.aload_n 0, 1) := by decide +kernel
theorem dX5_readTown_50 : decode cX5_readTown 50 = .ok (.iload_n 1, 1) := by decide +kernel
theorem dX5_readTown_51 : decode cX5_readTown 51 = .ok (.bipush 44, 2) := by decide +kernel
theorem dX5_readTown_53 : decode cX5_readTown 53 = .ok (.invokevirtual 101, 3) := by decide +kernel
theorem dX5_readTown_56 : decode cX5_readTown 56 = .ok (.ifCond .eq 12, 3) := by decide +kernel
theorem dX5_readTown_59 : decode cX5_readTown 59 = .ok (.aload_n 0, 1) := by decide +kernel
theorem dX5_readTown_60 : decode cX5_readTown 60 = .ok (.iload_n 1, 1) := by decide +kernel
theorem dX5_readTown_61 : decode cX5_readTown 61 = .ok (.iload_n 2, 1) := by decide +kernel
theorem dX5_readTown_62 : decode cX5_readTown 62 = .ok (.invokevirtual 109, 3) := by decide +kernel
theorem dX5_readTown_65 : decode cX5_readTown 65 = .ok (.ifCond .ne 5, 3) := by decide +kernel
theorem dX5_readTown_68 : decode cX5_readTown 68 = .ok (.iconst 0, 1) := by decide +kernel
theorem dX5_readTown_69 : decode cX5_readTown 69 = .ok (.ireturn, 1) := by decide +kernel
theorem dX5_readTown_70 : decode cX5_readTown 70 = .ok (.iinc 2 1, 3) := by decide +kernel
theorem dX5_readTown_73 : decode cX5_readTown 73 = .ok (.goto (-32), 3) := by decide +kernel
theorem dX5_readTown_76 : decode cX5_readTown 76 = .ok (.aload_n 0, 1) := by decide +kernel
theorem dX5_readTown_77 : decode cX5_readTown 77 = .ok (.getfield 95, 3) := by decide +kernel
theorem dX5_readTown_80 : decode cX5_readTown 80 = .ok (.ifCond .eq 19, 3) := by decide +kernel
theorem dX5_readTown_83 : decode cX5_readTown 83 = .ok (.aload_n 0, 1) := by decide +kernel
theorem dX5_readTown_84 : decode cX5_readTown 84 = .ok (.getfield 95, 3) := by decide +kernel
theorem dX5_readTown_87 : decode cX5_readTown 87 = .ok (.iconst 4, 1) := by decide +kernel
theorem dX5_readTown_88 : decode cX5_readTown 88 = .ok (.if_icmp .ge 31, 3) := by decide +kernel
theorem dX5_readTown_91 : decode cX5_readTown 91 = .ok (.aload_n 0, 1) := by decide +kernel
theorem dX5_readTown_92 : decode cX5_readTown 92 = .ok (.getfield 71, 3) := by decide +kernel
theorem dX5_readTown_95 : decode cX5_readTown 95 = .ok (.iload_n 1, 1) := by decide +kernel
theorem dX5_readTown_96 : decode cX5_readTown 96 = .ok (.if_icmp .ge 23, 3) := by decide +kernel
theorem dX5_readTown_99 : decode cX5_readTown 99 = .ok (.aload_n 0, 1) := by decide +kernel
theorem dX5_readTown_100 : decode cX5_readTown 100 = .ok (.iload_n 1, 1) := by decide +kernel
theorem dX5_readTown_101 : decode cX5_readTown 101 = .ok (.bipush 59, 2) := by decide +kernel
theorem dX5_readTown_103 : decode cX5_readTown 103 = .ok (.invokevirtual 101, 3) := by decide +kernel
theorem dX5_readTown_106 : decode cX5_readTown 106 = .ok (.ifCond .eq 11, 3) := by decide +kernel
theorem dX5_readTown_109 : decode cX5_readTown 109 = .ok (.aload_n 0, 1) := by decide +kernel
theorem dX5_readTown_110 : decode cX5_readTown 110 = .ok (.iload_n 1, 1) := by decide +kernel
theorem dX5_readTown_111 : decode cX5_readTown 111 = .ok (.invokevirtual 112, 3) := by decide +kernel
theorem dX5_readTown_114 : decode cX5_readTown 114 = .ok (.ifCond .ne (-38), 3) := by decide +kernel
theorem dX5_readTown_117 : decode cX5_readTown 117 = .ok (.iconst 0, 1) := by decide +kernel
theorem dX5_readTown_118 : decode cX5_readTown 118 = .ok (.ireturn, 1) := by decide +kernel
theorem dX5_readTown_119 : decode cX5_readTown 119 = .ok (.aload_n 0, 1) := by decide +kernel
theorem dX5_readTown_120 : decode cX5_readTown 120 = .ok (.getfield 71, 3) := by decide +kernel
theorem dX5_readTown_123 : decode cX5_readTown 123 = .ok (.iload_n 1, 1) := by decide +kernel
theorem dX5_readTown_124 : decode cX5_readTown 124 = .ok (.if_icmp .ne 7, 3) := by decide +kernel
theorem dX5_readTown_127 : decode cX5_readTown 127 = .ok (.iconst 1, 1) := by decide +kernel
theorem dX5_readTown_128 : decode cX5_readTown 128 = .ok (.goto 4, 3) := by decide +kernel
theorem dX5_readTown_131 : decode cX5_readTown 131 = .ok (.iconst 0, 1) := by decide +kernel
theorem dX5_readTown_132 : decode cX5_readTown 132 = .ok (.ireturn, 1) := by decide +kernel
set_option maxRecDepth 20000 in
theorem ggX5_readMaster_X5_spot : GoodIn wsX5_readMaster wsX5_spot := goodIn_r _ [6] (by decide +kernel) (by decide +kernel)
set_option maxRecDepth 20000 in
theorem gX5_readMaster_X5_spot : GoodIn wsX5_readMaster (va_wsS RX5 115 yX5_spot wsX5_spot) := goodIn_app (goodIn_of _ (by decide +kernel)) ggX5_readMaster_X5_spot
set_option maxRecDepth 20000 in
theorem ggX5_readMaster_X5_digit : GoodIn wsX5_readMaster wsX5_digit := goodIn_r _ [10, 11, 12, 13, 14, 5, 15, 16, 17, 18, 19, 20, 21, 22, 23, 24, 25, 26, 27, 28, 29, 30, 31, 32, 33, 34, 35, 36, 37, 38, 39, 40] (by decide +kernel) (by decide +kernel)
set_option maxRecDepth 20000 in
theorem gX5_readMaster_X5_digit : GoodIn wsX5_readMaster (wsV RX5 105 RX5 yX5_digit wsX5_digit) := goodIn_app (goodIn_of _ (by decide +kernel)) ggX5_readMaster_X5_digit
theorem dX5_readMaster_0 : decode cX5_readMaster 0 = .ok (.iconst 0, 1) := by decide +kernel
theorem dX5_readMaster_1 : decode cX5_readMaster 1 = .ok (.istore_n 3, 1) := by decide +kernel
theorem dX5_readMaster_2 : decode cX5_readMaster 2 = .ok (.iload_n 3, 1) := by decide +kernel
theorem dX5_readMaster_3 : decode cX5_readMaster 3 = .ok (.aload_n 0, 1) := by decide +kernel
theorem dX5_readMaster_4 : decode cX5_readMaster 4 = .ok (.getfield 92, 3) := by decide +kernel
theorem dX5_readMaster_7 : decode cX5_readMaster 7 = .ok (.if_icmp .ge 53, 3) := by decide +kernel
theorem dX5_readMaster_10 : decode cX5_readMaster 10 = .ok (.aload_n 0, 1) := by decide +kernel
theorem dX5_readMaster_11 : decode cX5_readMaster 11 = .ok (.getfield 28, 3) := by decide +kernel
theorem dX5_readMaster_14 : decode cX5_readMaster 14 = .ok (.iload_n 2, 1) := by decide +kernel
theorem dX5_readMaster_15 : decode cX5_readMaster 15 = .ok (.iload_n 3, 1) := by decide +kernel
theorem dX5_readMaster_16 : decode cX5_readMaster 16 = .ok (.invokestatic 115, 3) := by decide +kernel
theorem dX5_readMaster_19 : decode cX5_readMaster 19 = .ok (.aload_n 0, 1) := by decide +kernel
theorem dX5_readMaster_20 : decode cX5_readMaster 20 = .ok (.iload_n 1, 1) := by decide +kernel
theorem dX5_readMaster_21 : decode cX5_readMaster 21 = .ok (.iconst 0, 1) := by decide +kernel
theorem dX5_readMaster_22 : decode cX5_readMaster 22 = .ok (.iload_n 3, 1) := by decide +kernel
theorem dX5_readMaster_23 : decode cX5_readMaster 23 = .ok (.iload_n 2, 1) := by decide +kernel
theorem dX5_readMaster_24 : decode cX5_readMaster 24 = .ok (.if_icmp .ne 7, 3) := by decide +kernel
theorem dX5_readMaster_27 : decode cX5_readMaster 27 = .ok (.iconst 0, 1) := by decide +kernel
theorem dX5_readMaster_28 : decode cX5_readMaster 28 = .ok (.goto 5, 3) := by decide +kernel
theorem dX5_readMaster_31 : decode cX5_readMaster 31 = .ok (.bipush 9, 2) := by decide +kernel
theorem dX5_readMaster_33 : decode cX5_readMaster 33 = .ok (.invokevirtual 105, 3) := by decide +kernel
theorem dX5_readMaster_36 : decode cX5_readMaster 36 = .ok (.iastore, 1) := by decide +kernel
theorem dX5_readMaster_37 : decode cX5_readMaster 37 = .ok (.aload_n 0, 1) := by decide +kernel
theorem dX5_readMaster_38 : decode cX5_readMaster 38 = .ok (.getfield 28, 3) := by decide +kernel
theorem dX5_readMaster_41 : decode cX5_readMaster 41 = .ok (.iload_n 2, 1) := by decide +kernel
theorem dX5_readMaster_42 : decode cX5_readMaster 42 = .ok (.iload_n 3, 1) := by decide +kernel
theorem dX5_readMaster_43 : decode cX5_readMaster 43 = .ok (.invokestatic 115, 3) := by decide +kernel
theorem dX5_readMaster_46 : decode cX5_readMaster 46 = .ok (.iaload, 1) := by decide +kernel
theorem dX5_readMaster_47 : decode cX5_readMaster 47 = .ok (.bipush (-9), 2) := by decide +kernel
theorem dX5_readMaster_49 : decode cX5_readMaster 49 = .ok (.if_icmp .ne 5, 3) := by decide +kernel
theorem dX5_readMaster_52 : decode cX5_readMaster 52 = .ok (.iconst 0, 1) := by decide +kernel
theorem dX5_readMaster_53 : decode cX5_readMaster 53 = .ok (.ireturn, 1) := by decide +kernel
theorem dX5_readMaster_54 : decode cX5_readMaster 54 = .ok (.iinc 3 1, 3) := by decide +kernel
theorem dX5_readMaster_57 : decode cX5_readMaster 57 = .ok (.goto (-55), 3) := by decide +kernel
theorem dX5_readMaster_60 : decode cX5_readMaster 60 = .ok (.iconst 1, 1) := by decide +kernel
theorem dX5_readMaster_61 : decode cX5_readMaster 61 = .ok (.ireturn, 1) := by decide +kernel
set_option maxRecDepth 20000 in
theorem ggX5_readBoy_X5_digit : GoodIn wsX5_readBoy wsX5_digit := goodIn_r _ [11, 1, 2, 12, 13, 10, 14, 15, 16, 17, 18, 19, 20, 21, 22, 23, 24, 25, 26, 27, 28, 29, 30, 31, 32, 33, 34, 35, 36, 37, 38, 39] (by decide +kernel) (by decide +kernel)
set_option maxRecDepth 20000 in
theorem gX5_readBoy_X5_digit : GoodIn wsX5_readBoy (wsV RX5 105 RX5 yX5_digit wsX5_digit) := goodIn_app (goodIn_of _ (by decide +kernel)) ggX5_readBoy_X5_digit
theorem dX5_readBoy_0 : decode cX5_readBoy 0 = .ok (.aload_n 0, 1) := by decide +kernel
theorem dX5_readBoy_1 : decode cX5_readBoy 1 = .ok (.getfield 71, 3) := by decide +kernel
theorem dX5_readBoy_4 : decode cX5_readBoy 4 = .ok (.iload_n 1, 1) := by decide +kernel
theorem dX5_readBoy_5 : decode cX5_readBoy 5 = .ok (.if_icmp .ge 15, 3) := by decide +kernel
theorem dX5_readBoy_8 : decode cX5_readBoy 8 = .ok (.aload_n 0, 1) := by decide +kernel
theorem dX5_readBoy_9 : decode cX5_readBoy 9 = .ok (.getfield 16, 3) := by decide +kernel
