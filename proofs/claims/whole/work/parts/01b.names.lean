theorem dX0_init_0 : decode cX0_init 0 = .ok (.aload_n 0, 1) := by decide +kernel
theorem dX0_init_1 : decode cX0_init 1 = .ok (.invokespecial 1, 3) := by decide +kernel
theorem dX0_init_4 : decode cX0_init 4 = .ok (.aload_n 0, 1) := by decide +kernel
theorem dX0_init_5 : decode cX0_init 5 = .ok (.iconst 0, 1) := by decide +kernel
theorem dX0_init_6 : decode cX0_init 6 = .ok (.putfield 7, 3) := by decide +kernel
theorem dX0_init_9 : decode cX0_init 9 = .ok (.aload_n 0, 1) := by decide +kernel
theorem dX0_init_10 : decode cX0_init 10 = .ok (.iconst 0, 1) := by decide +kernel
theorem dX0_init_11 : decode cX0_init 11 = .ok (.putfield 13, 3) := by decide +kernel
theorem dX0_init_14 : decode cX0_init 14 = .ok (.aload_n 0, 1) := by decide +kernel
theorem dX0_init_15 : decode cX0_init 15 = .ok (.iconst 0, 1) := by decide +kernel
theorem dX0_init_16 : decode cX0_init 16 = .ok (.putfield 16, 3) := by decide +kernel
theorem dX0_init_19 : decode cX0_init 19 = .ok (.aload_n 0, 1) := by decide +kernel
theorem dX0_init_20 : decode cX0_init 20 = .ok (.iconst (-1), 1) := by decide +kernel
theorem dX0_init_21 : decode cX0_init 21 = .ok (.putfield 19, 3) := by decide +kernel
theorem dX0_init_24 : decode cX0_init 24 = .ok (.return_, 1) := by decide +kernel
theorem dX0_note_0 : decode cX0_note 0 = .ok (.aload_n 0, 1) := by decide +kernel
theorem dX0_note_1 : decode cX0_note 1 = .ok (.iload_n 1, 1) := by decide +kernel
theorem dX0_note_2 : decode cX0_note 2 = .ok (.putfield 7, 3) := by decide +kernel
theorem dX0_note_5 : decode cX0_note 5 = .ok (.aload_n 0, 1) := by decide +kernel
theorem dX0_note_6 : decode cX0_note 6 = .ok (.iload_n 2, 1) := by decide +kernel
theorem dX0_note_7 : decode cX0_note 7 = .ok (.putfield 13, 3) := by decide +kernel
theorem dX0_note_10 : decode cX0_note 10 = .ok (.aload_n 0, 1) := by decide +kernel
theorem dX0_note_11 : decode cX0_note 11 = .ok (.iload_n 3, 1) := by decide +kernel
theorem dX0_note_12 : decode cX0_note 12 = .ok (.putfield 16, 3) := by decide +kernel
theorem dX0_note_15 : decode cX0_note 15 = .ok (.aload_n 0, 1) := by decide +kernel
theorem dX0_note_16 : decode cX0_note 16 = .ok (.iload 4, 2) := by decide +kernel
theorem dX0_note_18 : decode cX0_note 18 = .ok (.putfield 19, 3) := by decide +kernel
theorem dX0_note_21 : decode cX0_note 21 = .ok (.return_, 1) := by decide +kernel
set_option maxRecDepth 20000 in
theorem ggX0_isSoIn_X2_masterBehind : GoodIn wsX0_isSoIn wsX2_masterBehind := goodIn_r _ [9, 10, 11, 12, 13, 8, 14, 15, 16, 17, 18, 19, 20, 21, 22, 23, 24, 37, 38, 39, 40, 41] (by decide +kernel) (by decide +kernel)
set_option maxRecDepth 20000 in
theorem gX0_isSoIn_X2_masterBehind : GoodIn wsX0_isSoIn (wsV RX0 22 RX2 yX2_masterBehind wsX2_masterBehind) := goodIn_app (goodIn_of _ (by decide +kernel)) ggX0_isSoIn_X2_masterBehind
set_option maxRecDepth 20000 in
theorem ggX0_isSoIn_X2_knownBehind : GoodIn wsX0_isSoIn wsX2_knownBehind := goodIn_r _ [28, 10, 29, 30, 31, 32, 15, 16, 17, 8, 18, 19, 20, 21, 22, 23, 24, 37, 38, 39, 40, 41] (by decide +kernel) (by decide +kernel)
set_option maxRecDepth 20000 in
theorem gX0_isSoIn_X2_knownBehind : GoodIn wsX0_isSoIn (wsV RX0 28 RX2 yX2_knownBehind wsX2_knownBehind) := goodIn_app (goodIn_of _ (by decide +kernel)) ggX0_isSoIn_X2_knownBehind
theorem dX0_isSoIn_0 : decode cX0_isSoIn 0 = .ok (.aload_n 0, 1) := by decide +kernel
theorem dX0_isSoIn_1 : decode cX0_isSoIn 1 = .ok (.getfield 19, 3) := by decide +kernel
theorem dX0_isSoIn_4 : decode cX0_isSoIn 4 = .ok (.iconst (-1), 1) := by decide +kernel
theorem dX0_isSoIn_5 : decode cX0_isSoIn 5 = .ok (.if_icmp .ne 28, 3) := by decide +kernel
theorem dX0_isSoIn_8 : decode cX0_isSoIn 8 = .ok (.aload_n 1, 1) := by decide +kernel
theorem dX0_isSoIn_9 : decode cX0_isSoIn 9 = .ok (.aload_n 0, 1) := by decide +kernel
theorem dX0_isSoIn_10 : decode cX0_isSoIn 10 = .ok (.getfield 7, 3) := by decide +kernel
theorem dX0_isSoIn_13 : decode cX0_isSoIn 13 = .ok (.aload_n 0, 1) := by decide +kernel
theorem dX0_isSoIn_14 : decode cX0_isSoIn 14 = .ok (.getfield 13, 3) := by decide +kernel
theorem dX0_isSoIn_17 : decode cX0_isSoIn 17 = .ok (.invokevirtual 22, 3) := by decide +kernel
theorem dX0_isSoIn_20 : decode cX0_isSoIn 20 = .ok (.aload_n 0, 1) := by decide +kernel
theorem dX0_isSoIn_21 : decode cX0_isSoIn 21 = .ok (.getfield 16, 3) := by decide +kernel
theorem dX0_isSoIn_24 : decode cX0_isSoIn 24 = .ok (.if_icmp .ne 7, 3) := by decide +kernel
theorem dX0_isSoIn_27 : decode cX0_isSoIn 27 = .ok (.iconst 1, 1) := by decide +kernel
theorem dX0_isSoIn_28 : decode cX0_isSoIn 28 = .ok (.goto 4, 3) := by decide +kernel
theorem dX0_isSoIn_31 : decode cX0_isSoIn 31 = .ok (.iconst 0, 1) := by decide +kernel
theorem dX0_isSoIn_32 : decode cX0_isSoIn 32 = .ok (.ireturn, 1) := by decide +kernel
theorem dX0_isSoIn_33 : decode cX0_isSoIn 33 = .ok (.aload_n 1, 1) := by decide +kernel
theorem dX0_isSoIn_34 : decode cX0_isSoIn 34 = .ok (.aload_n 0, 1) := by decide +kernel
theorem dX0_isSoIn_35 : decode cX0_isSoIn 35 = .ok (.getfield 7, 3) := by decide +kernel
theorem dX0_isSoIn_38 : decode cX0_isSoIn 38 = .ok (.aload_n 0, 1) := by decide +kernel
theorem dX0_isSoIn_39 : decode cX0_isSoIn 39 = .ok (.getfield 16, 3) := by decide +kernel
theorem dX0_isSoIn_42 : decode cX0_isSoIn 42 = .ok (.aload_n 0, 1) := by decide +kernel
theorem dX0_isSoIn_43 : decode cX0_isSoIn 43 = .ok (.getfield 13, 3) := by decide +kernel
theorem dX0_isSoIn_46 : decode cX0_isSoIn 46 = .ok (.invokevirtual 28, 3) := by decide +kernel
theorem dX0_isSoIn_49 : decode cX0_isSoIn 49 = .ok (.aload_n 0, 1) := by decide +kernel
theorem dX0_isSoIn_50 : decode cX0_isSoIn 50 = .ok (.getfield 19, 3) := by decide +kernel
theorem dX0_isSoIn_53 : decode cX0_isSoIn 53 = .ok (.if_icmp .ne 7, 3) := by decide +kernel
theorem dX0_isSoIn_56 : decode cX0_isSoIn 56 = .ok (.iconst 1, 1) := by decide +kernel
theorem dX0_isSoIn_57 : decode cX0_isSoIn 57 = .ok (.goto 4, 3) := by decide +kernel
theorem dX0_isSoIn_60 : decode cX0_isSoIn 60 = .ok (.iconst 0, 1) := by decide +kernel
theorem dX0_isSoIn_61 : decode cX0_isSoIn 61 = .ok (.ireturn, 1) := by decide +kernel
theorem dX1_init_0 : decode cX1_init 0 = .ok (.aload_n 0, 1) := by decide +kernel
theorem dX1_init_1 : decode cX1_init 1 = .ok (.invokespecial 3, 3) := by decide +kernel
theorem dX1_init_4 : decode cX1_init 4 = .ok (.aload_n 0, 1) := by decide +kernel
theorem dX1_init_5 : decode cX1_init 5 = .ok (.bipush 60, 2) := by decide +kernel
theorem dX1_init_7 : decode cX1_init 7 = .ok (.newarray .int, 2) := by decide +kernel
theorem dX1_init_9 : decode cX1_init 9 = .ok (.putfield 9, 3) := by decide +kernel
theorem dX1_init_12 : decode cX1_init 12 = .ok (.aload_n 0, 1) := by decide +kernel
theorem dX1_init_13 : decode cX1_init 13 = .ok (.iconst (-1), 1) := by decide +kernel
theorem dX1_init_14 : decode cX1_init 14 = .ok (.putfield 15, 3) := by decide +kernel
theorem dX1_init_17 : decode cX1_init 17 = .ok (.aload_n 0, 1) := by decide +kernel
theorem dX1_init_18 : decode cX1_init 18 = .ok (.iconst 0, 1) := by decide +kernel
theorem dX1_init_19 : decode cX1_init 19 = .ok (.putfield 19, 3) := by decide +kernel
theorem dX1_init_22 : decode cX1_init 22 = .ok (.return_, 1) := by decide +kernel
theorem dX1_hasNothing_0 : decode cX1_hasNothing 0 = .ok (.aload_n 0, 1) := by decide +kernel
theorem dX1_hasNothing_1 : decode cX1_hasNothing 1 = .ok (.getfield 15, 3) := by decide +kernel
theorem dX1_hasNothing_4 : decode cX1_hasNothing 4 = .ok (.iconst (-1), 1) := by decide +kernel
theorem dX1_hasNothing_5 : decode cX1_hasNothing 5 = .ok (.if_icmp .ne 7, 3) := by decide +kernel
theorem dX1_hasNothing_8 : decode cX1_hasNothing 8 = .ok (.iconst 1, 1) := by decide +kernel
theorem dX1_hasNothing_9 : decode cX1_hasNothing 9 = .ok (.goto 4, 3) := by decide +kernel
theorem dX1_hasNothing_12 : decode cX1_hasNothing 12 = .ok (.iconst 0, 1) := by decide +kernel
theorem dX1_hasNothing_13 : decode cX1_hasNothing 13 = .ok (.ireturn, 1) := by decide +kernel
theorem dX1_renew_0 : decode cX1_renew 0 = .ok (.aload_n 0, 1) := by decide +kernel
theorem dX1_renew_1 : decode cX1_renew 1 = .ok (.iload_n 1, 1) := by decide +kernel
theorem dX1_renew_2 : decode cX1_renew 2 = .ok (.putfield 15, 3) := by decide +kernel
theorem dX1_renew_5 : decode cX1_renew 5 = .ok (.aload_n 0, 1) := by decide +kernel
theorem dX1_renew_6 : decode cX1_renew 6 = .ok (.iload_n 2, 1) := by decide +kernel
theorem dX1_renew_7 : decode cX1_renew 7 = .ok (.putfield 19, 3) := by decide +kernel
theorem dX1_renew_10 : decode cX1_renew 10 = .ok (.iconst 0, 1) := by decide +kernel
theorem dX1_renew_11 : decode cX1_renew 11 = .ok (.istore_n 3, 1) := by decide +kernel
theorem dX1_renew_12 : decode cX1_renew 12 = .ok (.iload_n 3, 1) := by decide +kernel
theorem dX1_renew_13 : decode cX1_renew 13 = .ok (.bipush 60, 2) := by decide +kernel
theorem dX1_renew_15 : decode cX1_renew 15 = .ok (.if_icmp .ge 16, 3) := by decide +kernel
theorem dX1_renew_18 : decode cX1_renew 18 = .ok (.aload_n 0, 1) := by decide +kernel
theorem dX1_renew_19 : decode cX1_renew 19 = .ok (.getfield 9, 3) := by decide +kernel
theorem dX1_renew_22 : decode cX1_renew 22 = .ok (.iload_n 3, 1) := by decide +kernel
theorem dX1_renew_23 : decode cX1_renew 23 = .ok (.iconst 0, 1) := by decide +kernel
theorem dX1_renew_24 : decode cX1_renew 24 = .ok (.iastore, 1) := by decide +kernel
theorem dX1_renew_25 : decode cX1_renew 25 = .ok (.iinc 3 1, 3) := by decide +kernel
theorem dX1_renew_28 : decode cX1_renew 28 = .ok (.goto (-16), 3) := by decide +kernel
theorem dX1_renew_31 : decode cX1_renew 31 = .ok (.return_, 1) := by decide +kernel
theorem dX1_hasCells_0 : decode cX1_hasCells 0 = .ok (.iload_n 1, 1) := by decide +kernel
theorem dX1_hasCells_1 : decode cX1_hasCells 1 = .ok (.ifCond .lt 29, 3) := by decide +kernel
theorem dX1_hasCells_4 : decode cX1_hasCells 4 = .ok (.iload_n 1, 1) := by decide +kernel
theorem dX1_hasCells_5 : decode cX1_hasCells 5 = .ok (.aload_n 0, 1) := by decide +kernel
theorem dX1_hasCells_6 : decode cX1_hasCells 6 = .ok (.getfield 19, 3) := by decide +kernel
theorem dX1_hasCells_9 : decode cX1_hasCells 9 = .ok (.if_icmp .gt 21, 3) := by decide +kernel
theorem dX1_hasCells_12 : decode cX1_hasCells 12 = .ok (.iload_n 2, 1) := by decide +kernel
theorem dX1_hasCells_13 : decode cX1_hasCells 13 = .ok (.ifCond .lt 17, 3) := by decide +kernel
theorem dX1_hasCells_16 : decode cX1_hasCells 16 = .ok (.iload_n 2, 1) := by decide +kernel
theorem dX1_hasCells_17 : decode cX1_hasCells 17 = .ok (.aload_n 0, 1) := by decide +kernel
theorem dX1_hasCells_18 : decode cX1_hasCells 18 = .ok (.getfield 19, 3) := by decide +kernel
theorem dX1_hasCells_21 : decode cX1_hasCells 21 = .ok (.iload_n 1, 1) := by decide +kernel
theorem dX1_hasCells_22 : decode cX1_hasCells 22 = .ok (.isub, 1) := by decide +kernel
theorem dX1_hasCells_23 : decode cX1_hasCells 23 = .ok (.if_icmp .gt 7, 3) := by decide +kernel
theorem dX1_hasCells_26 : decode cX1_hasCells 26 = .ok (.iconst 1, 1) := by decide +kernel
theorem dX1_hasCells_27 : decode cX1_hasCells 27 = .ok (.goto 4, 3) := by decide +kernel
theorem dX1_hasCells_30 : decode cX1_hasCells 30 = .ok (.iconst 0, 1) := by decide +kernel
theorem dX1_hasCells_31 : decode cX1_hasCells 31 = .ok (.ireturn, 1) := by decide +kernel
theorem dX1_cut_0 : decode cX1_cut 0 = .ok (.aload_n 0, 1) := by decide +kernel
theorem dX1_cut_1 : decode cX1_cut 1 = .ok (.getfield 15, 3) := by decide +kernel
theorem dX1_cut_4 : decode cX1_cut 4 = .ok (.lookupswitch 34 #[(0, 28), (1, 31)], 28) := by decide +kernel
theorem dX1_cut_32 : decode cX1_cut 32 = .ok (.iload_n 1, 1) := by decide +kernel
theorem dX1_cut_33 : decode cX1_cut 33 = .ok (.i2b, 1) := by decide +kernel
theorem dX1_cut_34 : decode cX1_cut 34 = .ok (.ireturn, 1) := by decide +kernel
theorem dX1_cut_35 : decode cX1_cut 35 = .ok (.iload_n 1, 1) := by decide +kernel
theorem dX1_cut_36 : decode cX1_cut 36 = .ok (.i2s, 1) := by decide +kernel
theorem dX1_cut_37 : decode cX1_cut 37 = .ok (.ireturn, 1) := by decide +kernel
theorem dX1_cut_38 : decode cX1_cut 38 = .ok (.iload_n 1, 1) := by decide +kernel
theorem dX1_cut_39 : decode cX1_cut 39 = .ok (.ireturn, 1) := by decide +kernel
set_option maxRecDepth 20000 in
theorem ggX1_faultOfTaking_X1_hasNothing : GoodIn wsX1_faultOfTaking wsX1_hasNothing := goodIn_r _ [6, 1, 12, 13, 14] (by decide +kernel) (by decide +kernel)
set_option maxRecDepth 20000 in
theorem gX1_faultOfTaking_X1_hasNothing : GoodIn wsX1_faultOfTaking (wsV RX1 22 RX1 yX1_hasNothing wsX1_hasNothing) := goodIn_app (goodIn_of _ (by decide +kernel)) ggX1_faultOfTaking_X1_hasNothing
set_option maxRecDepth 20000 in
theorem ggX1_faultOfTaking_X1_hasCells : GoodIn wsX1_faultOfTaking wsX1_hasCells := goodIn_r _ [10, 11, 12, 13, 14] (by decide +kernel) (by decide +kernel)
set_option maxRecDepth 20000 in
theorem gX1_faultOfTaking_X1_hasCells : GoodIn wsX1_faultOfTaking (wsV RX1 26 RX1 yX1_hasCells wsX1_hasCells) := goodIn_app (goodIn_of _ (by decide +kernel)) ggX1_faultOfTaking_X1_hasCells
theorem dX1_faultOfTaking_0 : decode cX1_faultOfTaking 0 = .ok (.aload_n 0, 1) := by decide +kernel
theorem dX1_faultOfTaking_1 : decode cX1_faultOfTaking 1 = .ok (.invokevirtual 22, 3) := by decide +kernel
theorem dX1_faultOfTaking_4 : decode cX1_faultOfTaking 4 = .ok (.ifCond .eq 5, 3) := by decide +kernel
theorem dX1_faultOfTaking_7 : decode cX1_faultOfTaking 7 = .ok (.iconst 1, 1) := by decide +kernel
theorem dX1_faultOfTaking_8 : decode cX1_faultOfTaking 8 = .ok (.ireturn, 1) := by decide +kernel
theorem dX1_faultOfTaking_9 : decode cX1_faultOfTaking 9 = .ok (.aload_n 0, 1) := by decide +kernel
theorem dX1_faultOfTaking_10 : decode cX1_faultOfTaking 10 = .ok (.getfield 15, 3) := by decide +kernel
theorem dX1_faultOfTaking_13 : decode cX1_faultOfTaking 13 = .ok (.iload_n 1, 1) := by decide +kernel
theorem dX1_faultOfTaking_14 : decode cX1_faultOfTaking 14 = .ok (.if_icmp .eq 5, 3) := by decide +kernel
theorem dX1_faultOfTaking_17 : decode cX1_faultOfTaking 17 = .ok (.iconst 2, 1) := by decide +kernel
theorem dX1_faultOfTaking_18 : decode cX1_faultOfTaking 18 = .ok (.ireturn, 1) := by decide +kernel
theorem dX1_faultOfTaking_19 : decode cX1_faultOfTaking 19 = .ok (.iload_n 3, 1) := by decide +kernel
theorem dX1_faultOfTaking_20 : decode cX1_faultOfTaking 20 = .ok (.ifCond .ge 5, 3) := by decide +kernel
theorem dX1_faultOfTaking_23 : decode cX1_faultOfTaking 23 = .ok (.iconst 4, 1) := by decide +kernel
theorem dX1_faultOfTaking_24 : decode cX1_faultOfTaking 24 = .ok (.ireturn, 1) := by decide +kernel
theorem dX1_faultOfTaking_25 : decode cX1_faultOfTaking 25 = .ok (.aload_n 0, 1) := by decide +kernel
theorem dX1_faultOfTaking_26 : decode cX1_faultOfTaking 26 = .ok (.iload_n 2, 1) := by decide +kernel
theorem dX1_faultOfTaking_27 : decode cX1_faultOfTaking 27 = .ok (.iload_n 3, 1) := by decide +kernel
theorem dX1_faultOfTaking_28 : decode cX1_faultOfTaking 28 = .ok (.invokevirtual 26, 3) := by decide +kernel
theorem dX1_faultOfTaking_31 : decode cX1_faultOfTaking 31 = .ok (.ifCond .eq 7, 3) := by decide +kernel
theorem dX1_faultOfTaking_34 : decode cX1_faultOfTaking 34 = .ok (.iconst 0, 1) := by decide +kernel
theorem dX1_faultOfTaking_35 : decode cX1_faultOfTaking 35 = .ok (.goto 4, 3) := by decide +kernel
theorem dX1_faultOfTaking_38 : decode cX1_faultOfTaking 38 = .ok (.iconst 3, 1) := by decide +kernel
theorem dX1_faultOfTaking_39 : decode cX1_faultOfTaking 39 = .ok (.ireturn, 1) := by decide +kernel
theorem dX2_init_0 : decode cX2_init 0 = .ok (.aload_n 0, 1) := by decide +kernel
theorem dX2_init_1 : decode cX2_init 1 = .ok (.invokespecial 3, 3) := by decide +kernel
theorem dX2_init_4 : decode cX2_init 4 = .ok (.aload_n 0, 1) := by decide +kernel
theorem dX2_init_5 : decode cX2_init 5 = .ok (.bipush 25, 2) := by decide +kernel
theorem dX2_init_7 : decode cX2_init 7 = .ok (.newarray .int, 2) := by decide +kernel
theorem dX2_init_9 : decode cX2_init 9 = .ok (.putfield 9, 3) := by decide +kernel
theorem dX2_init_12 : decode cX2_init 12 = .ok (.aload_n 0, 1) := by decide +kernel
theorem dX2_init_13 : decode cX2_init 13 = .ok (.iconst 4, 1) := by decide +kernel
theorem dX2_init_14 : decode cX2_init 14 = .ok (.newarray .int, 2) := by decide +kernel
theorem dX2_init_16 : decode cX2_init 16 = .ok (.putfield 15, 3) := by decide +kernel
theorem dX2_init_19 : decode cX2_init 19 = .ok (.aload_n 0, 1) := by decide +kernel
theorem dX2_init_20 : decode cX2_init 20 = .ok (.iconst 4, 1) := by decide +kernel
theorem dX2_init_21 : decode cX2_init 21 = .ok (.newarray .int, 2) := by decide +kernel
theorem dX2_init_23 : decode cX2_init 23 = .ok (.putfield 18, 3) := by decide +kernel
theorem dX2_init_26 : decode cX2_init 26 = .ok (.aload_n 0, 1) := by decide +kernel
theorem dX2_init_27 : decode cX2_init 27 = .ok (.iconst 0, 1) := by decide +kernel
theorem dX2_init_28 : decode cX2_init 28 = .ok (.putfield 21, 3) := by decide +kernel
theorem dX2_init_31 : decode cX2_init 31 = .ok (.aload_n 0, 1) := by decide +kernel
theorem dX2_init_32 : decode cX2_init 32 = .ok (.iconst 0, 1) := by decide +kernel
theorem dX2_init_33 : decode cX2_init 33 = .ok (.putfield 25, 3) := by decide +kernel
theorem dX2_init_36 : decode cX2_init 36 = .ok (.return_, 1) := by decide +kernel
theorem dX2_hasMaster_0 : decode cX2_hasMaster 0 = .ok (.iload_n 1, 1) := by decide +kernel
theorem dX2_hasMaster_1 : decode cX2_hasMaster 1 = .ok (.ifCond .lt 15, 3) := by decide +kernel
theorem dX2_hasMaster_4 : decode cX2_hasMaster 4 = .ok (.iload_n 1, 1) := by decide +kernel
theorem dX2_hasMaster_5 : decode cX2_hasMaster 5 = .ok (.aload_n 0, 1) := by decide +kernel
theorem dX2_hasMaster_6 : decode cX2_hasMaster 6 = .ok (.getfield 21, 3) := by decide +kernel
theorem dX2_hasMaster_9 : decode cX2_hasMaster 9 = .ok (.if_icmp .ge 7, 3) := by decide +kernel
theorem dX2_hasMaster_12 : decode cX2_hasMaster 12 = .ok (.iconst 1, 1) := by decide +kernel
theorem dX2_hasMaster_13 : decode cX2_hasMaster 13 = .ok (.goto 4, 3) := by decide +kernel
theorem dX2_hasMaster_16 : decode cX2_hasMaster 16 = .ok (.iconst 0, 1) := by decide +kernel
theorem dX2_hasMaster_17 : decode cX2_hasMaster 17 = .ok (.ireturn, 1) := by decide +kernel
theorem dX2_hasBoy_0 : decode cX2_hasBoy 0 = .ok (.iload_n 1, 1) := by decide +kernel
theorem dX2_hasBoy_1 : decode cX2_hasBoy 1 = .ok (.ifCond .lt 15, 3) := by decide +kernel
theorem dX2_hasBoy_4 : decode cX2_hasBoy 4 = .ok (.iload_n 1, 1) := by decide +kernel
theorem dX2_hasBoy_5 : decode cX2_hasBoy 5 = .ok (.aload_n 0, 1) := by decide +kernel
theorem dX2_hasBoy_6 : decode cX2_hasBoy 6 = .ok (.getfield 25, 3) := by decide +kernel
theorem dX2_hasBoy_9 : decode cX2_hasBoy 9 = .ok (.if_icmp .ge 7, 3) := by decide +kernel
theorem dX2_hasBoy_12 : decode cX2_hasBoy 12 = .ok (.iconst 1, 1) := by decide +kernel
theorem dX2_hasBoy_13 : decode cX2_hasBoy 13 = .ok (.goto 4, 3) := by decide +kernel
theorem dX2_hasBoy_16 : decode cX2_hasBoy 16 = .ok (.iconst 0, 1) := by decide +kernel
theorem dX2_hasBoy_17 : decode cX2_hasBoy 17 = .ok (.ireturn, 1) := by decide +kernel
set_option maxRecDepth 20000 in
theorem ggX2_hasDebt_X2_hasMaster : GoodIn wsX2_hasDebt wsX2_hasMaster := goodIn_r _ [5, 6, 7, 8, 9, 10, 11] (by decide +kernel) (by decide +kernel)
set_option maxRecDepth 20000 in
theorem gX2_hasDebt_X2_hasMaster : GoodIn wsX2_hasDebt (wsV RX2 28 RX2 yX2_hasMaster wsX2_hasMaster) := goodIn_app (goodIn_of _ (by decide +kernel)) ggX2_hasDebt_X2_hasMaster
theorem dX2_hasDebt_0 : decode cX2_hasDebt 0 = .ok (.aload_n 0, 1) := by decide +kernel
theorem dX2_hasDebt_1 : decode cX2_hasDebt 1 = .ok (.iload_n 1, 1) := by decide +kernel
theorem dX2_hasDebt_2 : decode cX2_hasDebt 2 = .ok (.invokevirtual 28, 3) := by decide +kernel
theorem dX2_hasDebt_5 : decode cX2_hasDebt 5 = .ok (.ifCond .eq 20, 3) := by decide +kernel
theorem dX2_hasDebt_8 : decode cX2_hasDebt 8 = .ok (.aload_n 0, 1) := by decide +kernel
theorem dX2_hasDebt_9 : decode cX2_hasDebt 9 = .ok (.iload_n 2, 1) := by decide +kernel
theorem dX2_hasDebt_10 : decode cX2_hasDebt 10 = .ok (.invokevirtual 28, 3) := by decide +kernel
theorem dX2_hasDebt_13 : decode cX2_hasDebt 13 = .ok (.ifCond .eq 12, 3) := by decide +kernel
theorem dX2_hasDebt_16 : decode cX2_hasDebt 16 = .ok (.iload_n 1, 1) := by decide +kernel
theorem dX2_hasDebt_17 : decode cX2_hasDebt 17 = .ok (.iload_n 2, 1) := by decide +kernel
theorem dX2_hasDebt_18 : decode cX2_hasDebt 18 = .ok (.if_icmp .eq 7, 3) := by decide +kernel
theorem dX2_hasDebt_21 : decode cX2_hasDebt 21 = .ok (.iconst 1, 1) := by decide +kernel
theorem dX2_hasDebt_22 : decode cX2_hasDebt 22 = .ok (.goto 4, 3) := by decide +kernel
theorem dX2_hasDebt_25 : decode cX2_hasDebt 25 = .ok (.iconst 0, 1) := by decide +kernel
theorem dX2_hasDebt_26 : decode cX2_hasDebt 26 = .ok (.ireturn, 1) := by decide +kernel
theorem dX2_allMasters_0 : decode cX2_allMasters 0 = .ok (.iconst 1, 1) := by decide +kernel
theorem dX2_allMasters_1 : decode cX2_allMasters 1 = .ok (.aload_n 0, 1) := by decide +kernel
theorem dX2_allMasters_2 : decode cX2_allMasters 2 = .ok (.getfield 21, 3) := by decide +kernel
theorem dX2_allMasters_5 : decode cX2_allMasters 5 = .ok (.ishl, 1) := by decide +kernel
theorem dX2_allMasters_6 : decode cX2_allMasters 6 = .ok (.iconst 1, 1) := by decide +kernel
theorem dX2_allMasters_7 : decode cX2_allMasters 7 = .ok (.isub, 1) := by decide +kernel
theorem dX2_allMasters_8 : decode cX2_allMasters 8 = .ok (.ireturn, 1) := by decide +kernel
theorem dX2_debt_0 : decode cX2_debt 0 = .ok (.aload_n 0, 1) := by decide +kernel
theorem dX2_debt_1 : decode cX2_debt 1 = .ok (.getfield 9, 3) := by decide +kernel
theorem dX2_debt_4 : decode cX2_debt 4 = .ok (.iload_n 1, 1) := by decide +kernel
theorem dX2_debt_5 : decode cX2_debt 5 = .ok (.iconst 5, 1) := by decide +kernel
theorem dX2_debt_6 : decode cX2_debt 6 = .ok (.imul, 1) := by decide +kernel
theorem dX2_debt_7 : decode cX2_debt 7 = .ok (.iload_n 2, 1) := by decide +kernel
theorem dX2_debt_8 : decode cX2_debt 8 = .ok (.iadd, 1) := by decide +kernel
theorem dX2_debt_9 : decode cX2_debt 9 = .ok (.iaload, 1) := by decide +kernel
theorem dX2_debt_10 : decode cX2_debt 10 = .ok (.ireturn, 1) := by decide +kernel
theorem dX2_setDebt_0 : decode cX2_setDebt 0 = .ok (.aload_n 0, 1) := by decide +kernel
theorem dX2_setDebt_1 : decode cX2_setDebt 1 = .ok (.getfield 9, 3) := by decide +kernel
theorem dX2_setDebt_4 : decode cX2_setDebt 4 = .ok (.iload_n 1, 1) := by decide +kernel
theorem dX2_setDebt_5 : decode cX2_setDebt 5 = .ok (.iconst 5, 1) := by decide +kernel
theorem dX2_setDebt_6 : decode cX2_setDebt 6 = .ok (.imul, 1) := by decide +kernel
theorem dX2_setDebt_7 : decode cX2_setDebt 7 = .ok (.iload_n 2, 1) := by decide +kernel
theorem dX2_setDebt_8 : decode cX2_setDebt 8 = .ok (.iadd, 1) := by decide +kernel
theorem dX2_setDebt_9 : decode cX2_setDebt 9 = .ok (.iload_n 3, 1) := by decide +kernel
theorem dX2_setDebt_10 : decode cX2_setDebt 10 = .ok (.iastore, 1) := by decide +kernel
theorem dX2_setDebt_11 : decode cX2_setDebt 11 = .ok (.return_, 1) := by decide +kernel
theorem dX2_takeOver_0 : decode cX2_takeOver 0 = .ok (.aload_n 1, 1) := by decide +kernel
theorem dX2_takeOver_1 : decode cX2_takeOver 1 = .ok (.getfield 9, 3) := by decide +kernel
theorem dX2_takeOver_4 : decode cX2_takeOver 4 = .ok (.iconst 0, 1) := by decide +kernel
theorem dX2_takeOver_5 : decode cX2_takeOver 5 = .ok (.aload_n 0, 1) := by decide +kernel
theorem dX2_takeOver_6 : decode cX2_takeOver 6 = .ok (.getfield 9, 3) := by decide +kernel
theorem dX2_takeOver_9 : decode cX2_takeOver 9 = .ok (.iconst 0, 1) := by decide +kernel
theorem dX2_takeOver_10 : decode cX2_takeOver 10 = .ok (.bipush 25, 2) := by decide +kernel
theorem dX2_takeOver_12 : decode cX2_takeOver 12 = .ok (.invokestatic 32, 3) := by decide +kernel
theorem dX2_takeOver_15 : decode cX2_takeOver 15 = .ok (.aload_n 1, 1) := by decide +kernel
theorem dX2_takeOver_16 : decode cX2_takeOver 16 = .ok (.getfield 15, 3) := by decide +kernel
theorem dX2_takeOver_19 : decode cX2_takeOver 19 = .ok (.iconst 0, 1) := by decide +kernel
theorem dX2_takeOver_20 : decode cX2_takeOver 20 = .ok (.aload_n 0, 1) := by decide +kernel
theorem dX2_takeOver_21 : decode cX2_takeOver 21 = .ok (.getfield 15, 3) := by decide +kernel
theorem dX2_takeOver_24 : decode cX2_takeOver 24 = .ok (.iconst 0, 1) := by decide +kernel
theorem dX2_takeOver_25 : decode cX2_takeOver 25 = .ok (.iconst 4, 1) := by decide +kernel
theorem dX2_takeOver_26 : decode cX2_takeOver 26 = .ok (.invokestatic 32, 3) := by decide +kernel
theorem dX2_takeOver_29 : decode cX2_takeOver 29 = .ok (.aload_n 1, 1) := by decide +kernel
theorem dX2_takeOver_30 : decode cX2_takeOver 30 = .ok (.getfield 18, 3) := by decide +kernel
theorem dX2_takeOver_33 : decode cX2_takeOver 33 = .ok (.iconst 0, 1) := by decide +kernel
theorem dX2_takeOver_34 : decode cX2_takeOver 34 = .ok (.aload_n 0, 1) := by decide +kernel
theorem dX2_takeOver_35 : decode cX2_takeOver 35 = .ok (.getfield 18, 3) := by decide +kernel
theorem dX2_takeOver_38 : decode cX2_takeOver 38 = .ok (.iconst 0, 1) := by decide +kernel
theorem dX2_takeOver_39 : decode cX2_takeOver 39 = .ok (.iconst 4, 1) := by decide +kernel
theorem dX2_takeOver_40 : decode cX2_takeOver 40 = .ok (.invokestatic 32, 3) := by decide +kernel
theorem dX2_takeOver_43 : decode cX2_takeOver 43 = .ok (.aload_n 0, 1) := by decide +kernel
theorem dX2_takeOver_44 : decode cX2_takeOver 44 = .ok (.aload_n 1, 1) := by decide +kernel
theorem dX2_takeOver_45 : decode cX2_takeOver 45 = .ok (.getfield 21, 3) := by decide +kernel
theorem dX2_takeOver_48 : decode cX2_takeOver 48 = .ok (.putfield 21, 3) := by decide +kernel
theorem dX2_takeOver_51 : decode cX2_takeOver 51 = .ok (.aload_n 0, 1) := by decide +kernel
theorem dX2_takeOver_52 : decode cX2_takeOver 52 = .ok (.aload_n 1, 1) := by decide +kernel
theorem dX2_takeOver_53 : decode cX2_takeOver 53 = .ok (.getfield 25, 3) := by decide +kernel
theorem dX2_takeOver_56 : decode cX2_takeOver 56 = .ok (.putfield 25, 3) := by decide +kernel
theorem dX2_takeOver_59 : decode cX2_takeOver 59 = .ok (.return_, 1) := by decide +kernel
set_option maxRecDepth 20000 in
theorem ggX2_nextOf_X2_debt : GoodIn wsX2_nextOf wsX2_debt := goodIn_r _ [6, 7, 8, 9, 10, 11, 12] (by decide +kernel) (by decide +kernel)
set_option maxRecDepth 20000 in
theorem gX2_nextOf_X2_debt : GoodIn wsX2_nextOf (wsV RX2 38 RX2 yX2_debt wsX2_debt) := goodIn_app (goodIn_of _ (by decide +kernel)) ggX2_nextOf_X2_debt
theorem dX2_nextOf_0 : decode cX2_nextOf 0 = .ok (.iconst 0, 1) := by decide +kernel
theorem dX2_nextOf_1 : decode cX2_nextOf 1 = .ok (.istore_n 2, 1) := by decide +kernel
theorem dX2_nextOf_2 : decode cX2_nextOf 2 = .ok (.iload_n 1, 1) := by decide +kernel
theorem dX2_nextOf_3 : decode cX2_nextOf 3 = .ok (.istore_n 3, 1) := by decide +kernel
theorem dX2_nextOf_4 : decode cX2_nextOf 4 = .ok (.iconst 0, 1) := by decide +kernel
theorem dX2_nextOf_5 : decode cX2_nextOf 5 = .ok (.istore 4, 2) := by decide +kernel
theorem dX2_nextOf_7 : decode cX2_nextOf 7 = .ok (.iload 4, 2) := by decide +kernel
theorem dX2_nextOf_9 : decode cX2_nextOf 9 = .ok (.aload_n 0, 1) := by decide +kernel
theorem dX2_nextOf_10 : decode cX2_nextOf 10 = .ok (.getfield 21, 3) := by decide +kernel
theorem dX2_nextOf_13 : decode cX2_nextOf 13 = .ok (.if_icmp .ge 31, 3) := by decide +kernel
theorem dX2_nextOf_16 : decode cX2_nextOf 16 = .ok (.aload_n 0, 1) := by decide +kernel
theorem dX2_nextOf_17 : decode cX2_nextOf 17 = .ok (.iload_n 1, 1) := by decide +kernel
theorem dX2_nextOf_18 : decode cX2_nextOf 18 = .ok (.iload 4, 2) := by decide +kernel
theorem dX2_nextOf_20 : decode cX2_nextOf 20 = .ok (.invokevirtual 38, 3) := by decide +kernel
theorem dX2_nextOf_23 : decode cX2_nextOf 23 = .ok (.iload_n 2, 1) := by decide +kernel
theorem dX2_nextOf_24 : decode cX2_nextOf 24 = .ok (.if_icmp .le 14, 3) := by decide +kernel
theorem dX2_nextOf_27 : decode cX2_nextOf 27 = .ok (.aload_n 0, 1) := by decide +kernel
theorem dX2_nextOf_28 : decode cX2_nextOf 28 = .ok (.iload_n 1, 1) := by decide +kernel
theorem dX2_nextOf_29 : decode cX2_nextOf 29 = .ok (.iload 4, 2) := by decide +kernel
theorem dX2_nextOf_31 : decode cX2_nextOf 31 = .ok (.invokevirtual 38, 3) := by decide +kernel
theorem dX2_nextOf_34 : decode cX2_nextOf 34 = .ok (.istore_n 2, 1) := by decide +kernel
theorem dX2_nextOf_35 : decode cX2_nextOf 35 = .ok (.iload 4, 2) := by decide +kernel
theorem dX2_nextOf_37 : decode cX2_nextOf 37 = .ok (.istore_n 3, 1) := by decide +kernel
theorem dX2_nextOf_38 : decode cX2_nextOf 38 = .ok (.iinc 4 1, 3) := by decide +kernel
theorem dX2_nextOf_41 : decode cX2_nextOf 41 = .ok (.goto (-34), 3) := by decide +kernel
theorem dX2_nextOf_44 : decode cX2_nextOf 44 = .ok (.iload_n 3, 1) := by decide +kernel
theorem dX2_nextOf_45 : decode cX2_nextOf 45 = .ok (.ireturn, 1) := by decide +kernel
set_option maxRecDepth 20000 in
theorem ggX2_stepsFrom_X2_nextOf : GoodIn wsX2_stepsFrom wsX2_nextOf := goodIn_r _ [5, 6, 7, 8, 9, 4, 10, 11, 12, 13, 14, 15, 16] (by decide +kernel) (by decide +kernel)
set_option maxRecDepth 20000 in
theorem gX2_stepsFrom_X2_nextOf : GoodIn wsX2_stepsFrom (wsV RX2 42 RX2 yX2_nextOf wsX2_nextOf) := goodIn_app (goodIn_of _ (by decide +kernel)) ggX2_stepsFrom_X2_nextOf
theorem dX2_stepsFrom_0 : decode cX2_stepsFrom 0 = .ok (.iload_n 1, 1) := by decide +kernel
theorem dX2_stepsFrom_1 : decode cX2_stepsFrom 1 = .ok (.istore_n 3, 1) := by decide +kernel
theorem dX2_stepsFrom_2 : decode cX2_stepsFrom 2 = .ok (.iconst 0, 1) := by decide +kernel
theorem dX2_stepsFrom_3 : decode cX2_stepsFrom 3 = .ok (.istore 4, 2) := by decide +kernel
theorem dX2_stepsFrom_5 : decode cX2_stepsFrom 5 = .ok (.iload 4, 2) := by decide +kernel
theorem dX2_stepsFrom_7 : decode cX2_stepsFrom 7 = .ok (.iload_n 2, 1) := by decide +kernel
theorem dX2_stepsFrom_8 : decode cX2_stepsFrom 8 = .ok (.if_icmp .ge 15, 3) := by decide +kernel
theorem dX2_stepsFrom_11 : decode cX2_stepsFrom 11 = .ok (.aload_n 0, 1) := by decide +kernel
theorem dX2_stepsFrom_12 : decode cX2_stepsFrom 12 = .ok (.iload_n 3, 1) := by decide +kernel
theorem dX2_stepsFrom_13 : decode cX2_stepsFrom 13 = .ok (.invokevirtual 42, 3) := by decide +kernel
theorem dX2_stepsFrom_16 : decode cX2_stepsFrom 16 = .ok (.istore_n 3, 1) := by decide +kernel
theorem dX2_stepsFrom_17 : decode cX2_stepsFrom 17 = .ok (.iinc 4 1, 3) := by decide +kernel
theorem dX2_stepsFrom_20 : decode cX2_stepsFrom 20 = .ok (.goto (-15), 3) := by decide +kernel
theorem dX2_stepsFrom_23 : decode cX2_stepsFrom 23 = .ok (.iload_n 3, 1) := by decide +kernel
theorem dX2_stepsFrom_24 : decode cX2_stepsFrom 24 = .ok (.ireturn, 1) := by decide +kernel
set_option maxRecDepth 20000 in
theorem ggX2_metFrom_X2_nextOf : GoodIn wsX2_metFrom wsX2_nextOf := goodIn_r _ [6, 1, 7, 8, 9, 5, 10, 11, 12, 13, 14, 15, 16] (by decide +kernel) (by decide +kernel)
set_option maxRecDepth 20000 in
theorem gX2_metFrom_X2_nextOf : GoodIn wsX2_metFrom (wsV RX2 42 RX2 yX2_nextOf wsX2_nextOf) := goodIn_app (goodIn_of _ (by decide +kernel)) ggX2_metFrom_X2_nextOf
theorem dX2_metFrom_0 : decode cX2_metFrom 0 = .ok (.iconst 0, 1) := by decide +kernel
theorem dX2_metFrom_1 : decode cX2_metFrom 1 = .ok (.istore_n 2, 1) := by decide +kernel
theorem dX2_metFrom_2 : decode cX2_metFrom 2 = .ok (.iload_n 1, 1) := by decide +kernel
theorem dX2_metFrom_3 : decode cX2_metFrom 3 = .ok (.istore_n 3, 1) := by decide +kernel
theorem dX2_metFrom_4 : decode cX2_metFrom 4 = .ok (.iconst 0, 1) := by decide +kernel
theorem dX2_metFrom_5 : decode cX2_metFrom 5 = .ok (.istore 4, 2) := by decide +kernel
theorem dX2_metFrom_7 : decode cX2_metFrom 7 = .ok (.iload 4, 2) := by decide +kernel
theorem dX2_metFrom_9 : decode cX2_metFrom 9 = .ok (.aload_n 0, 1) := by decide +kernel
theorem dX2_metFrom_10 : decode cX2_metFrom 10 = .ok (.getfield 21, 3) := by decide +kernel
theorem dX2_metFrom_13 : decode cX2_metFrom 13 = .ok (.if_icmp .ge 21, 3) := by decide +kernel
theorem dX2_metFrom_16 : decode cX2_metFrom 16 = .ok (.iload_n 2, 1) := by decide +kernel
theorem dX2_metFrom_17 : decode cX2_metFrom 17 = .ok (.iconst 1, 1) := by decide +kernel
theorem dX2_metFrom_18 : decode cX2_metFrom 18 = .ok (.iload_n 3, 1) := by decide +kernel
theorem dX2_metFrom_19 : decode cX2_metFrom 19 = .ok (.ishl, 1) := by decide +kernel
theorem dX2_metFrom_20 : decode cX2_metFrom 20 = .ok (.ior, 1) := by decide +kernel
theorem dX2_metFrom_21 : decode cX2_metFrom 21 = .ok (.istore_n 2, 1) := by decide +kernel
theorem dX2_metFrom_22 : decode cX2_metFrom 22 = .ok (.aload_n 0, 1) := by decide +kernel
theorem dX2_metFrom_23 : decode cX2_metFrom 23 = .ok (.iload_n 3, 1) := by decide +kernel
theorem dX2_metFrom_24 : decode cX2_metFrom 24 = .ok (.invokevirtual 42, 3) := by decide +kernel
theorem dX2_metFrom_27 : decode cX2_metFrom 27 = .ok (.istore_n 3, 1) := by decide +kernel
theorem dX2_metFrom_28 : decode cX2_metFrom 28 = .ok (.iinc 4 1, 3) := by decide +kernel
theorem dX2_metFrom_31 : decode cX2_metFrom 31 = .ok (.goto (-24), 3) := by decide +kernel
theorem dX2_metFrom_34 : decode cX2_metFrom 34 = .ok (.iload_n 2, 1) := by decide +kernel
theorem dX2_metFrom_35 : decode cX2_metFrom 35 = .ok (.ireturn, 1) := by decide +kernel
set_option maxRecDepth 20000 in
theorem ggX2_masterBehind_X2_stepsFrom : GoodIn wsX2_masterBehind wsX2_stepsFrom := goodIn_r _ [6, 7, 8, 9, 5, 10, 11, 12, 13, 14, 15, 16, 17, 18, 19, 20, 21] (by decide +kernel) (by decide +kernel)
set_option maxRecDepth 20000 in
theorem gX2_masterBehind_X2_stepsFrom : GoodIn wsX2_masterBehind (wsV RX2 46 RX2 yX2_stepsFrom wsX2_stepsFrom) := goodIn_app (goodIn_of _ (by decide +kernel)) ggX2_masterBehind_X2_stepsFrom
theorem dX2_masterBehind_0 : decode cX2_masterBehind 0 = .ok (.aload_n 0, 1) := by decide +kernel
theorem dX2_masterBehind_1 : decode cX2_masterBehind 1 = .ok (.aload_n 0, 1) := by decide +kernel
theorem dX2_masterBehind_2 : decode cX2_masterBehind 2 = .ok (.getfield 18, 3) := by decide +kernel
theorem dX2_masterBehind_5 : decode cX2_masterBehind 5 = .ok (.iload_n 1, 1) := by decide +kernel
theorem dX2_masterBehind_6 : decode cX2_masterBehind 6 = .ok (.iaload, 1) := by decide +kernel
theorem dX2_masterBehind_7 : decode cX2_masterBehind 7 = .ok (.iload_n 2, 1) := by decide +kernel
theorem dX2_masterBehind_8 : decode cX2_masterBehind 8 = .ok (.invokevirtual 46, 3) := by decide +kernel
theorem dX2_masterBehind_11 : decode cX2_masterBehind 11 = .ok (.ireturn, 1) := by decide +kernel
set_option maxRecDepth 20000 in
theorem ggX2_knownBehind_X4_learning : GoodIn wsX2_knownBehind wsX4_learning := goodIn_r _ [5] (by decide +kernel) (by decide +kernel)
set_option maxRecDepth 20000 in
theorem gX2_knownBehind_X4_learning_n49 : GoodIn wsX2_knownBehind (wsX4_learning) := ggX2_knownBehind_X4_learning
set_option maxRecDepth 20000 in
theorem ggX2_knownBehind_X2_nextOf : GoodIn wsX2_knownBehind wsX2_nextOf := goodIn_r _ [10, 11, 12, 13, 14, 9, 15, 16, 17, 18, 19, 20, 21] (by decide +kernel) (by decide +kernel)
set_option maxRecDepth 20000 in
theorem gX2_knownBehind_X2_nextOf : GoodIn wsX2_knownBehind (wsV RX2 42 RX2 yX2_nextOf wsX2_nextOf) := goodIn_app (goodIn_of _ (by decide +kernel)) ggX2_knownBehind_X2_nextOf
theorem dX2_knownBehind_0 : decode cX2_knownBehind 0 = .ok (.iconst 0, 1) := by decide +kernel
theorem dX2_knownBehind_1 : decode cX2_knownBehind 1 = .ok (.istore 4, 2) := by decide +kernel
theorem dX2_knownBehind_3 : decode cX2_knownBehind 3 = .ok (.aload_n 0, 1) := by decide +kernel
theorem dX2_knownBehind_4 : decode cX2_knownBehind 4 = .ok (.getfield 18, 3) := by decide +kernel
theorem dX2_knownBehind_7 : decode cX2_knownBehind 7 = .ok (.iload_n 1, 1) := by decide +kernel
theorem dX2_knownBehind_8 : decode cX2_knownBehind 8 = .ok (.iaload, 1) := by decide +kernel
theorem dX2_knownBehind_9 : decode cX2_knownBehind 9 = .ok (.istore 5, 2) := by decide +kernel
theorem dX2_knownBehind_11 : decode cX2_knownBehind 11 = .ok (.iconst 0, 1) := by decide +kernel
theorem dX2_knownBehind_12 : decode cX2_knownBehind 12 = .ok (.istore 6, 2) := by decide +kernel
theorem dX2_knownBehind_14 : decode cX2_knownBehind 14 = .ok (.iload 6, 2) := by decide +kernel
theorem dX2_knownBehind_16 : decode cX2_knownBehind 16 = .ok (.iload_n 3, 1) := by decide +kernel
theorem dX2_knownBehind_17 : decode cX2_knownBehind 17 = .ok (.if_icmp .ge 46, 3) := by decide +kernel
theorem dX2_knownBehind_20 : decode cX2_knownBehind 20 = .ok (.iload 4, 2) := by decide +kernel
theorem dX2_knownBehind_22 : decode cX2_knownBehind 22 = .ok (.iload 4, 2) := by decide +kernel
theorem dX2_knownBehind_24 : decode cX2_knownBehind 24 = .ok (.iconst 3, 1) := by decide +kernel
theorem dX2_knownBehind_25 : decode cX2_knownBehind 25 = .ok (.idiv, 1) := by decide +kernel
theorem dX2_knownBehind_26 : decode cX2_knownBehind 26 = .ok (.isub, 1) := by decide +kernel
theorem dX2_knownBehind_27 : decode cX2_knownBehind 27 = .ok (.istore 4, 2) := by decide +kernel
theorem dX2_knownBehind_29 : decode cX2_knownBehind 29 = .ok (.iload 5, 2) := by decide +kernel
theorem dX2_knownBehind_31 : decode cX2_knownBehind 31 = .ok (.iload_n 2, 1) := by decide +kernel
theorem dX2_knownBehind_32 : decode cX2_knownBehind 32 = .ok (.if_icmp .ne 17, 3) := by decide +kernel
theorem dX2_knownBehind_35 : decode cX2_knownBehind 35 = .ok (.iload 4, 2) := by decide +kernel
theorem dX2_knownBehind_37 : decode cX2_knownBehind 37 = .ok (.aload_n 0, 1) := by decide +kernel
theorem dX2_knownBehind_38 : decode cX2_knownBehind 38 = .ok (.getfield 15, 3) := by decide +kernel
theorem dX2_knownBehind_41 : decode cX2_knownBehind 41 = .ok (.iload_n 1, 1) := by decide +kernel
theorem dX2_knownBehind_42 : decode cX2_knownBehind 42 = .ok (.iaload, 1) := by decide +kernel
theorem dX2_knownBehind_43 : decode cX2_knownBehind 43 = .ok (.invokestatic 49, 3) := by decide +kernel
theorem dX2_knownBehind_46 : decode cX2_knownBehind 46 = .ok (.iadd, 1) := by decide +kernel
theorem dX2_knownBehind_47 : decode cX2_knownBehind 47 = .ok (.istore 4, 2) := by decide +kernel
theorem dX2_knownBehind_49 : decode cX2_knownBehind 49 = .ok (.aload_n 0, 1) := by decide +kernel
theorem dX2_knownBehind_50 : decode cX2_knownBehind 50 = .ok (.iload 5, 2) := by decide +kernel
theorem dX2_knownBehind_52 : decode cX2_knownBehind 52 = .ok (.invokevirtual 42, 3) := by decide +kernel
theorem dX2_knownBehind_55 : decode cX2_knownBehind 55 = .ok (.istore 5, 2) := by decide +kernel
theorem dX2_knownBehind_57 : decode cX2_knownBehind 57 = .ok (.iinc 6 1, 3) := by decide +kernel
theorem dX2_knownBehind_60 : decode cX2_knownBehind 60 = .ok (.goto (-46), 3) := by decide +kernel
theorem dX2_knownBehind_63 : decode cX2_knownBehind 63 = .ok (.iload 4, 2) := by decide +kernel
theorem dX2_knownBehind_65 : decode cX2_knownBehind 65 = .ok (.ireturn, 1) := by decide +kernel
theorem dX3_init_0 : decode cX3_init 0 = .ok (.aload_n 0, 1) := by decide +kernel
theorem dX3_init_1 : decode cX3_init 1 = .ok (.invokespecial 3, 3) := by decide +kernel
theorem dX3_init_4 : decode cX3_init 4 = .ok (.aload_n 0, 1) := by decide +kernel
theorem dX3_init_5 : decode cX3_init 5 = .ok (.aload_n 1, 1) := by decide +kernel
theorem dX3_init_6 : decode cX3_init 6 = .ok (.putfield 9, 3) := by decide +kernel
theorem dX3_init_9 : decode cX3_init 9 = .ok (.aload_n 0, 1) := by decide +kernel
theorem dX3_init_10 : decode cX3_init 10 = .ok (.iload_n 2, 1) := by decide +kernel
theorem dX3_init_11 : decode cX3_init 11 = .ok (.putfield 15, 3) := by decide +kernel
theorem dX3_init_14 : decode cX3_init 14 = .ok (.aload_n 0, 1) := by decide +kernel
theorem dX3_init_15 : decode cX3_init 15 = .ok (.iload_n 3, 1) := by decide +kernel
theorem dX3_init_16 : decode cX3_init 16 = .ok (.putfield 19, 3) := by decide +kernel
theorem dX3_init_19 : decode cX3_init 19 = .ok (.iload_n 3, 1) := by decide +kernel
theorem dX3_init_20 : decode cX3_init 20 = .ok (.iconst 1, 1) := by decide +kernel
theorem dX3_init_21 : decode cX3_init 21 = .ok (.if_icmp .le 17, 3) := by decide +kernel
theorem dX3_init_24 : decode cX3_init 24 = .ok (.aload_n 1, 1) := by decide +kernel
theorem dX3_init_25 : decode cX3_init 25 = .ok (.getfield 22, 3) := by decide +kernel
theorem dX3_init_28 : decode cX3_init 28 = .ok (.iload_n 2, 1) := by decide +kernel
theorem dX3_init_29 : decode cX3_init 29 = .ok (.iconst 1, 1) := by decide +kernel
theorem dX3_init_30 : decode cX3_init 30 = .ok (.iadd, 1) := by decide +kernel
theorem dX3_init_31 : decode cX3_init 31 = .ok (.iaload, 1) := by decide +kernel
theorem dX3_init_32 : decode cX3_init 32 = .ok (.bipush 48, 2) := by decide +kernel
theorem dX3_init_34 : decode cX3_init 34 = .ok (.isub, 1) := by decide +kernel
theorem dX3_init_35 : decode cX3_init 35 = .ok (.goto 4, 3) := by decide +kernel
theorem dX3_init_38 : decode cX3_init 38 = .ok (.iconst 0, 1) := by decide +kernel
theorem dX3_init_39 : decode cX3_init 39 = .ok (.istore 4, 2) := by decide +kernel
theorem dX3_init_41 : decode cX3_init 41 = .ok (.aload_n 0, 1) := by decide +kernel
theorem dX3_init_42 : decode cX3_init 42 = .ok (.iload 4, 2) := by decide +kernel
theorem dX3_init_44 : decode cX3_init 44 = .ok (.iconst 2, 1) := by decide +kernel
theorem dX3_init_45 : decode cX3_init 45 = .ok (.if_icmp .lt 14, 3) := by decide +kernel
theorem dX3_init_48 : decode cX3_init 48 = .ok (.iload 4, 2) := by decide +kernel
theorem dX3_init_50 : decode cX3_init 50 = .ok (.iconst 5, 1) := by decide +kernel
theorem dX3_init_51 : decode cX3_init 51 = .ok (.if_icmp .gt 8, 3) := by decide +kernel
theorem dX3_init_54 : decode cX3_init 54 = .ok (.iload 4, 2) := by decide +kernel
theorem dX3_init_56 : decode cX3_init 56 = .ok (.goto 4, 3) := by decide +kernel
theorem dX3_init_59 : decode cX3_init 59 = .ok (.iconst 0, 1) := by decide +kernel
theorem dX3_init_60 : decode cX3_init 60 = .ok (.putfield 28, 3) := by decide +kernel
theorem dX3_init_63 : decode cX3_init 63 = .ok (.aload_n 0, 1) := by decide +kernel
theorem dX3_init_64 : decode cX3_init 64 = .ok (.iconst 2, 1) := by decide +kernel
theorem dX3_init_65 : decode cX3_init 65 = .ok (.aload_n 0, 1) := by decide +kernel
theorem dX3_init_66 : decode cX3_init 66 = .ok (.getfield 28, 3) := by decide +kernel
theorem dX3_init_69 : decode cX3_init 69 = .ok (.aload_n 0, 1) := by decide +kernel
theorem dX3_init_70 : decode cX3_init 70 = .ok (.getfield 28, 3) := by decide +kernel
theorem dX3_init_73 : decode cX3_init 73 = .ok (.iconst 1, 1) := by decide +kernel
theorem dX3_init_74 : decode cX3_init 74 = .ok (.iadd, 1) := by decide +kernel
theorem dX3_init_75 : decode cX3_init 75 = .ok (.imul, 1) := by decide +kernel
theorem dX3_init_76 : decode cX3_init 76 = .ok (.iadd, 1) := by decide +kernel
theorem dX3_init_77 : decode cX3_init 77 = .ok (.putfield 31, 3) := by decide +kernel
theorem dX3_init_80 : decode cX3_init 80 = .ok (.return_, 1) := by decide +kernel
theorem dX3_code_0 : decode cX3_code 0 = .ok (.aload_n 0, 1) := by decide +kernel
theorem dX3_code_1 : decode cX3_code 1 = .ok (.getfield 9, 3) := by decide +kernel
theorem dX3_code_4 : decode cX3_code 4 = .ok (.getfield 22, 3) := by decide +kernel
theorem dX3_code_7 : decode cX3_code 7 = .ok (.aload_n 0, 1) := by decide +kernel
theorem dX3_code_8 : decode cX3_code 8 = .ok (.getfield 15, 3) := by decide +kernel
theorem dX3_code_11 : decode cX3_code 11 = .ok (.iload_n 1, 1) := by decide +kernel
theorem dX3_code_12 : decode cX3_code 12 = .ok (.iadd, 1) := by decide +kernel
theorem dX3_code_13 : decode cX3_code 13 = .ok (.iaload, 1) := by decide +kernel
theorem dX3_code_14 : decode cX3_code 14 = .ok (.ireturn, 1) := by decide +kernel
set_option maxRecDepth 20000 in
theorem ggX3_firstFault_X3_fits : GoodIn wsX3_firstFault wsX3_fits := goodIn_r _ [7, 8, 2, 9, 10, 11, 6, 12, 13, 14, 15, 16, 17, 18, 19, 20, 21, 22, 23, 24, 25, 26, 27, 28, 29, 30] (by decide +kernel) (by decide +kernel)
set_option maxRecDepth 20000 in
theorem gX3_firstFault_X3_fits : GoodIn wsX3_firstFault (wsV RX3 34 RX3 yX3_fits wsX3_fits) := goodIn_app (goodIn_of _ (by decide +kernel)) ggX3_firstFault_X3_fits
theorem dX3_firstFault_0 : decode cX3_firstFault 0 = .ok (.iconst 0, 1) := by decide +kernel
theorem dX3_firstFault_1 : decode cX3_firstFault 1 = .ok (.istore_n 1, 1) := by decide +kernel
theorem dX3_firstFault_2 : decode cX3_firstFault 2 = .ok (.iload_n 1, 1) := by decide +kernel
theorem dX3_firstFault_3 : decode cX3_firstFault 3 = .ok (.aload_n 0, 1) := by decide +kernel
theorem dX3_firstFault_4 : decode cX3_firstFault 4 = .ok (.getfield 19, 3) := by decide +kernel
theorem dX3_firstFault_7 : decode cX3_firstFault 7 = .ok (.if_icmp .ge 19, 3) := by decide +kernel
theorem dX3_firstFault_10 : decode cX3_firstFault 10 = .ok (.aload_n 0, 1) := by decide +kernel
theorem dX3_firstFault_11 : decode cX3_firstFault 11 = .ok (.iload_n 1, 1) := by decide +kernel
theorem dX3_firstFault_12 : decode cX3_firstFault 12 = .ok (.invokevirtual 34, 3) := by decide +kernel
theorem dX3_firstFault_15 : decode cX3_firstFault 15 = .ok (.ifCond .ne 5, 3) := by decide +kernel
theorem dX3_firstFault_18 : decode cX3_firstFault 18 = .ok (.iload_n 1, 1) := by decide +kernel
theorem dX3_firstFault_19 : decode cX3_firstFault 19 = .ok (.ireturn, 1) := by decide +kernel
theorem dX3_firstFault_20 : decode cX3_firstFault 20 = .ok (.iinc 1 1, 3) := by decide +kernel
theorem dX3_firstFault_23 : decode cX3_firstFault 23 = .ok (.goto (-21), 3) := by decide +kernel
theorem dX3_firstFault_26 : decode cX3_firstFault 26 = .ok (.aload_n 0, 1) := by decide +kernel
theorem dX3_firstFault_27 : decode cX3_firstFault 27 = .ok (.getfield 19, 3) := by decide +kernel
theorem dX3_firstFault_30 : decode cX3_firstFault 30 = .ok (.aload_n 0, 1) := by decide +kernel
theorem dX3_firstFault_31 : decode cX3_firstFault 31 = .ok (.getfield 31, 3) := by decide +kernel
theorem dX3_firstFault_34 : decode cX3_firstFault 34 = .ok (.isub, 1) := by decide +kernel
theorem dX3_firstFault_35 : decode cX3_firstFault 35 = .ok (.istore_n 1, 1) := by decide +kernel
theorem dX3_firstFault_36 : decode cX3_firstFault 36 = .ok (.iload_n 1, 1) := by decide +kernel
theorem dX3_firstFault_37 : decode cX3_firstFault 37 = .ok (.ifCond .le 14, 3) := by decide +kernel
theorem dX3_firstFault_40 : decode cX3_firstFault 40 = .ok (.iload_n 1, 1) := by decide +kernel
theorem dX3_firstFault_41 : decode cX3_firstFault 41 = .ok (.iconst 3, 1) := by decide +kernel
theorem dX3_firstFault_42 : decode cX3_firstFault 42 = .ok (.irem, 1) := by decide +kernel
theorem dX3_firstFault_43 : decode cX3_firstFault 43 = .ok (.ifCond .ne 8, 3) := by decide +kernel
theorem dX3_firstFault_46 : decode cX3_firstFault 46 = .ok (.bipush (-9), 2) := by decide +kernel
theorem dX3_firstFault_48 : decode cX3_firstFault 48 = .ok (.goto 7, 3) := by decide +kernel
theorem dX3_firstFault_51 : decode cX3_firstFault 51 = .ok (.aload_n 0, 1) := by decide +kernel
theorem dX3_firstFault_52 : decode cX3_firstFault 52 = .ok (.getfield 19, 3) := by decide +kernel
theorem dX3_firstFault_55 : decode cX3_firstFault 55 = .ok (.ireturn, 1) := by decide +kernel
set_option maxRecDepth 20000 in
theorem ggX3_fits_X3_code : GoodIn wsX3_fits wsX3_code := goodIn_r _ [7, 8, 9, 18, 19, 20, 21, 22, 23, 24, 25] (by decide +kernel) (by decide +kernel)
set_option maxRecDepth 20000 in
theorem gX3_fits_X3_code : GoodIn wsX3_fits (wsV RX3 38 RX3 yX3_code wsX3_code) := goodIn_app (goodIn_of _ (by decide +kernel)) ggX3_fits_X3_code
set_option maxRecDepth 20000 in
theorem ggX3_fits_X3_fitsDebt : GoodIn wsX3_fits wsX3_fitsDebt := goodIn_r _ [13, 1, 3, 4, 5, 6, 7, 8, 9, 18, 19, 20, 21, 22, 23, 24, 25] (by decide +kernel) (by decide +kernel)
set_option maxRecDepth 20000 in
theorem gX3_fits_X3_fitsDebt : GoodIn wsX3_fits (wsV RX3 42 RX3 yX3_fitsDebt wsX3_fitsDebt) := goodIn_app (goodIn_of _ (by decide +kernel)) ggX3_fits_X3_fitsDebt
set_option maxRecDepth 20000 in
theorem ggX3_fits_X3_fitsBoy : GoodIn wsX3_fits wsX3_fitsBoy := goodIn_r _ [17, 2, 1, 3, 4, 5, 6, 7, 8, 9, 18, 19, 20, 21, 22, 23, 24, 25] (by decide +kernel) (by decide +kernel)
set_option maxRecDepth 20000 in
theorem gX3_fits_X3_fitsBoy : GoodIn wsX3_fits (wsV RX3 45 RX3 yX3_fitsBoy wsX3_fitsBoy) := goodIn_app (goodIn_of _ (by decide +kernel)) ggX3_fits_X3_fitsBoy
theorem dX3_fits_0 : decode cX3_fits 0 = .ok (.iload_n 1, 1) := by decide +kernel
theorem dX3_fits_1 : decode cX3_fits 1 = .ok (.ifCond .ne 19, 3) := by decide +kernel
theorem dX3_fits_4 : decode cX3_fits 4 = .ok (.aload_n 0, 1) := by decide +kernel
theorem dX3_fits_5 : decode cX3_fits 5 = .ok (.iconst 0, 1) := by decide +kernel
theorem dX3_fits_6 : decode cX3_fits 6 = .ok (.invokevirtual 38, 3) := by decide +kernel
theorem dX3_fits_9 : decode cX3_fits 9 = .ok (.bipush 106, 2) := by decide +kernel
theorem dX3_fits_11 : decode cX3_fits 11 = .ok (.if_icmp .ne 7, 3) := by decide +kernel
theorem dX3_fits_14 : decode cX3_fits 14 = .ok (.iconst 1, 1) := by decide +kernel
theorem dX3_fits_15 : decode cX3_fits 15 = .ok (.goto 4, 3) := by decide +kernel
theorem dX3_fits_18 : decode cX3_fits 18 = .ok (.iconst 0, 1) := by decide +kernel
theorem dX3_fits_19 : decode cX3_fits 19 = .ok (.ireturn, 1) := by decide +kernel
theorem dX3_fits_20 : decode cX3_fits 20 = .ok (.iload_n 1, 1) := by decide +kernel
theorem dX3_fits_21 : decode cX3_fits 21 = .ok (.iconst 1, 1) := by decide +kernel
theorem dX3_fits_22 : decode cX3_fits 22 = .ok (.if_icmp .ne 16, 3) := by decide +kernel
theorem dX3_fits_25 : decode cX3_fits 25 = .ok (.aload_n 0, 1) := by decide +kernel
theorem dX3_fits_26 : decode cX3_fits 26 = .ok (.getfield 28, 3) := by decide +kernel
theorem dX3_fits_29 : decode cX3_fits 29 = .ok (.ifCond .le 7, 3) := by decide +kernel
theorem dX3_fits_32 : decode cX3_fits 32 = .ok (.iconst 1, 1) := by decide +kernel
theorem dX3_fits_33 : decode cX3_fits 33 = .ok (.goto 4, 3) := by decide +kernel
theorem dX3_fits_36 : decode cX3_fits 36 = .ok (.iconst 0, 1) := by decide +kernel
theorem dX3_fits_37 : decode cX3_fits 37 = .ok (.ireturn, 1) := by decide +kernel
theorem dX3_fits_38 : decode cX3_fits 38 = .ok (.iload_n 1, 1) := by decide +kernel
theorem dX3_fits_39 : decode cX3_fits 39 = .ok (.aload_n 0, 1) := by decide +kernel
theorem dX3_fits_40 : decode cX3_fits 40 = .ok (.getfield 31, 3) := by decide +kernel
theorem dX3_fits_43 : decode cX3_fits 43 = .ok (.if_icmp .ge 11, 3) := by decide +kernel
theorem dX3_fits_46 : decode cX3_fits 46 = .ok (.aload_n 0, 1) := by decide +kernel
theorem dX3_fits_47 : decode cX3_fits 47 = .ok (.iload_n 1, 1) := by decide +kernel
theorem dX3_fits_48 : decode cX3_fits 48 = .ok (.invokevirtual 42, 3) := by decide +kernel
theorem dX3_fits_51 : decode cX3_fits 51 = .ok (.goto 8, 3) := by decide +kernel
theorem dX3_fits_54 : decode cX3_fits 54 = .ok (.aload_n 0, 1) := by decide +kernel
theorem dX3_fits_55 : decode cX3_fits 55 = .ok (.iload_n 1, 1) := by decide +kernel
theorem dX3_fits_56 : decode cX3_fits 56 = .ok (.invokevirtual 45, 3) := by decide +kernel
theorem dX3_fits_59 : decode cX3_fits 59 = .ok (.ireturn, 1) := by decide +kernel
set_option maxRecDepth 20000 in
theorem ggX3_fitsDebt_X3_code : GoodIn wsX3_fitsDebt wsX3_code := goodIn_r _ [6, 7, 8, 9, 10, 11, 12, 13, 14, 15, 16] (by decide +kernel) (by decide +kernel)
set_option maxRecDepth 20000 in
theorem gX3_fitsDebt_X3_code : GoodIn wsX3_fitsDebt (wsV RX3 38 RX3 yX3_code wsX3_code) := goodIn_app (goodIn_of _ (by decide +kernel)) ggX3_fitsDebt_X3_code
theorem dX3_fitsDebt_0 : decode cX3_fitsDebt 0 = .ok (.iload_n 1, 1) := by decide +kernel
theorem dX3_fitsDebt_1 : decode cX3_fitsDebt 1 = .ok (.iconst 2, 1) := by decide +kernel
theorem dX3_fitsDebt_2 : decode cX3_fitsDebt 2 = .ok (.isub, 1) := by decide +kernel
theorem dX3_fitsDebt_3 : decode cX3_fitsDebt 3 = .ok (.aload_n 0, 1) := by decide +kernel
theorem dX3_fitsDebt_4 : decode cX3_fitsDebt 4 = .ok (.getfield 28, 3) := by decide +kernel
theorem dX3_fitsDebt_7 : decode cX3_fitsDebt 7 = .ok (.iconst 1, 1) := by decide +kernel
theorem dX3_fitsDebt_8 : decode cX3_fitsDebt 8 = .ok (.iadd, 1) := by decide +kernel
theorem dX3_fitsDebt_9 : decode cX3_fitsDebt 9 = .ok (.idiv, 1) := by decide +kernel
theorem dX3_fitsDebt_10 : decode cX3_fitsDebt 10 = .ok (.istore_n 2, 1) := by decide +kernel
theorem dX3_fitsDebt_11 : decode cX3_fitsDebt 11 = .ok (.iload_n 1, 1) := by decide +kernel
theorem dX3_fitsDebt_12 : decode cX3_fitsDebt 12 = .ok (.iconst 2, 1) := by decide +kernel
theorem dX3_fitsDebt_13 : decode cX3_fitsDebt 13 = .ok (.isub, 1) := by decide +kernel
theorem dX3_fitsDebt_14 : decode cX3_fitsDebt 14 = .ok (.aload_n 0, 1) := by decide +kernel
theorem dX3_fitsDebt_15 : decode cX3_fitsDebt 15 = .ok (.getfield 28, 3) := by decide +kernel
theorem dX3_fitsDebt_18 : decode cX3_fitsDebt 18 = .ok (.iconst 1, 1) := by decide +kernel
theorem dX3_fitsDebt_19 : decode cX3_fitsDebt 19 = .ok (.iadd, 1) := by decide +kernel
theorem dX3_fitsDebt_20 : decode cX3_fitsDebt 20 = .ok (.irem, 1) := by decide +kernel
theorem dX3_fitsDebt_21 : decode cX3_fitsDebt 21 = .ok (.istore_n 3, 1) := by decide +kernel
theorem dX3_fitsDebt_22 : decode cX3_fitsDebt 22 = .ok (.iload_n 3, 1) := by decide +kernel
theorem dX3_fitsDebt_23 : decode cX3_fitsDebt 23 = .ok (.ifCond .ne 19, 3) := by decide +kernel
theorem dX3_fitsDebt_26 : decode cX3_fitsDebt 26 = .ok (.aload_n 0, 1) := by decide +kernel
theorem dX3_fitsDebt_27 : decode cX3_fitsDebt 27 = .ok (.iload_n 1, 1) := by decide +kernel
theorem dX3_fitsDebt_28 : decode cX3_fitsDebt 28 = .ok (.invokevirtual 38, 3) := by decide +kernel
theorem dX3_fitsDebt_31 : decode cX3_fitsDebt 31 = .ok (.bipush 44, 2) := by decide +kernel
theorem dX3_fitsDebt_33 : decode cX3_fitsDebt 33 = .ok (.if_icmp .ne 7, 3) := by decide +kernel
theorem dX3_fitsDebt_36 : decode cX3_fitsDebt 36 = .ok (.iconst 1, 1) := by decide +kernel
theorem dX3_fitsDebt_37 : decode cX3_fitsDebt 37 = .ok (.goto 4, 3) := by decide +kernel
theorem dX3_fitsDebt_40 : decode cX3_fitsDebt 40 = .ok (.iconst 0, 1) := by decide +kernel
theorem dX3_fitsDebt_41 : decode cX3_fitsDebt 41 = .ok (.ireturn, 1) := by decide +kernel
theorem dX3_fitsDebt_42 : decode cX3_fitsDebt 42 = .ok (.iload_n 3, 1) := by decide +kernel
theorem dX3_fitsDebt_43 : decode cX3_fitsDebt 43 = .ok (.iconst 1, 1) := by decide +kernel
theorem dX3_fitsDebt_44 : decode cX3_fitsDebt 44 = .ok (.isub, 1) := by decide +kernel
theorem dX3_fitsDebt_45 : decode cX3_fitsDebt 45 = .ok (.iload_n 2, 1) := by decide +kernel
theorem dX3_fitsDebt_46 : decode cX3_fitsDebt 46 = .ok (.if_icmp .ne 7, 3) := by decide +kernel
theorem dX3_fitsDebt_49 : decode cX3_fitsDebt 49 = .ok (.iconst 1, 1) := by decide +kernel
theorem dX3_fitsDebt_50 : decode cX3_fitsDebt 50 = .ok (.goto 4, 3) := by decide +kernel
theorem dX3_fitsDebt_53 : decode cX3_fitsDebt 53 = .ok (.iconst 0, 1) := by decide +kernel
theorem dX3_fitsDebt_54 : decode cX3_fitsDebt 54 = .ok (.istore 4, 2) := by decide +kernel
theorem dX3_fitsDebt_56 : decode cX3_fitsDebt 56 = .ok (.aload_n 0, 1) := by decide +kernel
theorem dX3_fitsDebt_57 : decode cX3_fitsDebt 57 = .ok (.iload_n 1, 1) := by decide +kernel
theorem dX3_fitsDebt_58 : decode cX3_fitsDebt 58 = .ok (.invokevirtual 38, 3) := by decide +kernel
theorem dX3_fitsDebt_61 : decode cX3_fitsDebt 61 = .ok (.bipush 48, 2) := by decide +kernel
theorem dX3_fitsDebt_63 : decode cX3_fitsDebt 63 = .ok (.if_icmp .lt 27, 3) := by decide +kernel
theorem dX3_fitsDebt_66 : decode cX3_fitsDebt 66 = .ok (.aload_n 0, 1) := by decide +kernel
theorem dX3_fitsDebt_67 : decode cX3_fitsDebt 67 = .ok (.iload_n 1, 1) := by decide +kernel
theorem dX3_fitsDebt_68 : decode cX3_fitsDebt 68 = .ok (.invokevirtual 38, 3) := by decide +kernel
theorem dX3_fitsDebt_71 : decode cX3_fitsDebt 71 = .ok (.iload 4, 2) := by decide +kernel
theorem dX3_fitsDebt_73 : decode cX3_fitsDebt 73 = .ok (.ifCond .eq 8, 3) := by decide +kernel
theorem dX3_fitsDebt_76 : decode cX3_fitsDebt 76 = .ok (.bipush 48, 2) := by decide +kernel
theorem dX3_fitsDebt_78 : decode cX3_fitsDebt 78 = .ok (.goto 5, 3) := by decide +kernel
theorem dX3_fitsDebt_81 : decode cX3_fitsDebt 81 = .ok (.bipush 57, 2) := by decide +kernel
theorem dX3_fitsDebt_83 : decode cX3_fitsDebt 83 = .ok (.if_icmp .gt 7, 3) := by decide +kernel
theorem dX3_fitsDebt_86 : decode cX3_fitsDebt 86 = .ok (.iconst 1, 1) := by decide +kernel
theorem dX3_fitsDebt_87 : decode cX3_fitsDebt 87 = .ok (.goto 4, 3) := by decide +kernel
theorem dX3_fitsDebt_90 : decode cX3_fitsDebt 90 = .ok (.iconst 0, 1) := by decide +kernel
theorem dX3_fitsDebt_91 : decode cX3_fitsDebt 91 = .ok (.ireturn, 1) := by decide +kernel
set_option maxRecDepth 20000 in
theorem ggX3_fitsBoy_X3_code : GoodIn wsX3_fitsBoy wsX3_code := goodIn_r _ [7, 8, 9, 10, 11, 12, 13, 14, 15, 16, 17] (by decide +kernel) (by decide +kernel)
set_option maxRecDepth 20000 in
theorem gX3_fitsBoy_X3_code : GoodIn wsX3_fitsBoy (wsV RX3 38 RX3 yX3_code wsX3_code) := goodIn_app (goodIn_of _ (by decide +kernel)) ggX3_fitsBoy_X3_code
theorem dX3_fitsBoy_0 : decode cX3_fitsBoy 0 = .ok (.iload_n 1, 1) := by decide +kernel
theorem dX3_fitsBoy_1 : decode cX3_fitsBoy 1 = .ok (.aload_n 0, 1) := by decide +kernel
theorem dX3_fitsBoy_2 : decode cX3_fitsBoy 2 = .ok (.getfield 31, 3) := by decide +kernel
theorem dX3_fitsBoy_5 : decode cX3_fitsBoy 5 = .ok (.isub, 1) := by decide +kernel
theorem dX3_fitsBoy_6 : decode cX3_fitsBoy 6 = .ok (.iconst 3, 1) := by decide +kernel
theorem dX3_fitsBoy_7 : decode cX3_fitsBoy 7 = .ok (.idiv, 1) := by decide +kernel
theorem dX3_fitsBoy_8 : decode cX3_fitsBoy 8 = .ok (.istore_n 2, 1) := by decide +kernel
theorem dX3_fitsBoy_9 : decode cX3_fitsBoy 9 = .ok (.iload_n 1, 1) := by decide +kernel
theorem dX3_fitsBoy_10 : decode cX3_fitsBoy 10 = .ok (.aload_n 0, 1) := by decide +kernel
theorem dX3_fitsBoy_11 : decode cX3_fitsBoy 11 = .ok (.getfield 31, 3) := by decide +kernel
theorem dX3_fitsBoy_14 : decode cX3_fitsBoy 14 = .ok (.isub, 1) := by decide +kernel
theorem dX3_fitsBoy_15 : decode cX3_fitsBoy 15 = .ok (.iconst 3, 1) := by decide +kernel
theorem dX3_fitsBoy_16 : decode cX3_fitsBoy 16 = .ok (.irem, 1) := by decide +kernel
theorem dX3_fitsBoy_17 : decode cX3_fitsBoy 17 = .ok (.lookupswitch 74 #[(0, 27), (1, 48)], 27) := by decide +kernel
theorem dX3_fitsBoy_44 : decode cX3_fitsBoy 44 = .ok (.aload_n 0, 1) := by decide +kernel
theorem dX3_fitsBoy_45 : decode cX3_fitsBoy 45 = .ok (.iload_n 1, 1) := by decide +kernel
theorem dX3_fitsBoy_46 : decode cX3_fitsBoy 46 = .ok (.invokevirtual 38, 3) := by decide +kernel
theorem dX3_fitsBoy_49 : decode cX3_fitsBoy 49 = .ok (.bipush 59, 2) := by decide +kernel
theorem dX3_fitsBoy_51 : decode cX3_fitsBoy 51 = .ok (.if_icmp .ne 12, 3) := by decide +kernel
theorem dX3_fitsBoy_54 : decode cX3_fitsBoy 54 = .ok (.iload_n 2, 1) := by decide +kernel
theorem dX3_fitsBoy_55 : decode cX3_fitsBoy 55 = .ok (.iconst 4, 1) := by decide +kernel
theorem dX3_fitsBoy_56 : decode cX3_fitsBoy 56 = .ok (.if_icmp .ge 7, 3) := by decide +kernel
theorem dX3_fitsBoy_59 : decode cX3_fitsBoy 59 = .ok (.iconst 1, 1) := by decide +kernel
theorem dX3_fitsBoy_60 : decode cX3_fitsBoy 60 = .ok (.goto 4, 3) := by decide +kernel
theorem dX3_fitsBoy_63 : decode cX3_fitsBoy 63 = .ok (.iconst 0, 1) := by decide +kernel
theorem dX3_fitsBoy_64 : decode cX3_fitsBoy 64 = .ok (.ireturn, 1) := by decide +kernel
theorem dX3_fitsBoy_65 : decode cX3_fitsBoy 65 = .ok (.aload_n 0, 1) := by decide +kernel
theorem dX3_fitsBoy_66 : decode cX3_fitsBoy 66 = .ok (.iload_n 1, 1) := by decide +kernel
theorem dX3_fitsBoy_67 : decode cX3_fitsBoy 67 = .ok (.invokevirtual 38, 3) := by decide +kernel
theorem dX3_fitsBoy_70 : decode cX3_fitsBoy 70 = .ok (.bipush 98, 2) := by decide +kernel
theorem dX3_fitsBoy_72 : decode cX3_fitsBoy 72 = .ok (.if_icmp .lt 17, 3) := by decide +kernel
theorem dX3_fitsBoy_75 : decode cX3_fitsBoy 75 = .ok (.aload_n 0, 1) := by decide +kernel
theorem dX3_fitsBoy_76 : decode cX3_fitsBoy 76 = .ok (.iload_n 1, 1) := by decide +kernel
theorem dX3_fitsBoy_77 : decode cX3_fitsBoy 77 = .ok (.invokevirtual 38, 3) := by decide +kernel
theorem dX3_fitsBoy_80 : decode cX3_fitsBoy 80 = .ok (.bipush 100, 2) := by decide +kernel
theorem dX3_fitsBoy_82 : decode cX3_fitsBoy 82 = .ok (.if_icmp .gt 7, 3) := by decide +kernel
theorem dX3_fitsBoy_85 : decode cX3_fitsBoy 85 = .ok (.iconst 1, 1) := by decide +kernel
theorem dX3_fitsBoy_86 : decode cX3_fitsBoy 86 = .ok (.goto 4, 3) := by decide +kernel
theorem dX3_fitsBoy_89 : decode cX3_fitsBoy 89 = .ok (.iconst 0, 1) := by decide +kernel
theorem dX3_fitsBoy_90 : decode cX3_fitsBoy 90 = .ok (.ireturn, 1) := by decide +kernel
theorem dX3_fitsBoy_91 : decode cX3_fitsBoy 91 = .ok (.aload_n 0, 1) := by decide +kernel
theorem dX3_fitsBoy_92 : decode cX3_fitsBoy 92 = .ok (.iload_n 1, 1) := by decide +kernel
theorem dX3_fitsBoy_93 : decode cX3_fitsBoy 93 = .ok (.invokevirtual 38, 3) := by decide +kernel
theorem dX3_fitsBoy_96 : decode cX3_fitsBoy 96 = .ok (.bipush 48, 2) := by decide +kernel
theorem dX3_fitsBoy_98 : decode cX3_fitsBoy 98 = .ok (.if_icmp .lt 22, 3) := by decide +kernel
theorem dX3_fitsBoy_101 : decode cX3_fitsBoy 101 = .ok (.aload_n 0, 1) := by decide +kernel
theorem dX3_fitsBoy_102 : decode cX3_fitsBoy 102 = .ok (.iload_n 1, 1) := by decide +kernel
theorem dX3_fitsBoy_103 : decode cX3_fitsBoy 103 = .ok (.invokevirtual 38, 3) := by decide +kernel
theorem dX3_fitsBoy_106 : decode cX3_fitsBoy 106 = .ok (.bipush 48, 2) := by decide +kernel
theorem dX3_fitsBoy_108 : decode cX3_fitsBoy 108 = .ok (.aload_n 0, 1) := by decide +kernel
theorem dX3_fitsBoy_109 : decode cX3_fitsBoy 109 = .ok (.getfield 28, 3) := by decide +kernel
theorem dX3_fitsBoy_112 : decode cX3_fitsBoy 112 = .ok (.iadd, 1) := by decide +kernel
theorem dX3_fitsBoy_113 : decode cX3_fitsBoy 113 = .ok (.if_icmp .ge 7, 3) := by decide +kernel
theorem dX3_fitsBoy_116 : decode cX3_fitsBoy 116 = .ok (.iconst 1, 1) := by decide +kernel
theorem dX3_fitsBoy_117 : decode cX3_fitsBoy 117 = .ok (.goto 4, 3) := by decide +kernel
theorem dX3_fitsBoy_120 : decode cX3_fitsBoy 120 = .ok (.iconst 0, 1) := by decide +kernel
theorem dX3_fitsBoy_121 : decode cX3_fitsBoy 121 = .ok (.ireturn, 1) := by decide +kernel
set_option maxRecDepth 20000 in
theorem ggX3_settle_X3_code : GoodIn wsX3_settle wsX3_code := goodIn_r _ [8, 9, 10, 17, 18, 19, 20, 21, 27, 28, 29] (by decide +kernel) (by decide +kernel)
set_option maxRecDepth 20000 in
theorem gX3_settle_X3_code : GoodIn wsX3_settle (wsV RX3 38 RX3 yX3_code wsX3_code) := goodIn_app (goodIn_of _ (by decide +kernel)) ggX3_settle_X3_code
set_option maxRecDepth 20000 in
theorem ggX3_settle_X2_setDebt : GoodIn wsX3_settle wsX2_setDebt := goodIn_r _ [15, 16, 22, 23, 24, 25, 26] (by decide +kernel) (by decide +kernel)
set_option maxRecDepth 20000 in
theorem gX3_settle_X2_setDebt : GoodIn wsX3_settle (wsV RX3 51 RX2 yX2_setDebt wsX2_setDebt) := goodIn_app (goodIn_of _ (by decide +kernel)) ggX3_settle_X2_setDebt
theorem dX3_settle_0 : decode cX3_settle 0 = .ok (.aload_n 1, 1) := by decide +kernel
theorem dX3_settle_1 : decode cX3_settle 1 = .ok (.aload_n 0, 1) := by decide +kernel
theorem dX3_settle_2 : decode cX3_settle 2 = .ok (.getfield 28, 3) := by decide +kernel
theorem dX3_settle_5 : decode cX3_settle 5 = .ok (.putfield 48, 3) := by decide +kernel
theorem dX3_settle_8 : decode cX3_settle 8 = .ok (.iconst 0, 1) := by decide +kernel
theorem dX3_settle_9 : decode cX3_settle 9 = .ok (.istore_n 2, 1) := by decide +kernel
theorem dX3_settle_10 : decode cX3_settle 10 = .ok (.iload_n 2, 1) := by decide +kernel
theorem dX3_settle_11 : decode cX3_settle 11 = .ok (.aload_n 0, 1) := by decide +kernel
theorem dX3_settle_12 : decode cX3_settle 12 = .ok (.getfield 28, 3) := by decide +kernel
theorem dX3_settle_15 : decode cX3_settle 15 = .ok (.if_icmp .ge 52, 3) := by decide +kernel
theorem dX3_settle_18 : decode cX3_settle 18 = .ok (.iconst 0, 1) := by decide +kernel
theorem dX3_settle_19 : decode cX3_settle 19 = .ok (.istore_n 3, 1) := by decide +kernel
theorem dX3_settle_20 : decode cX3_settle 20 = .ok (.iload_n 3, 1) := by decide +kernel
theorem dX3_settle_21 : decode cX3_settle 21 = .ok (.aload_n 0, 1) := by decide +kernel
theorem dX3_settle_22 : decode cX3_settle 22 = .ok (.getfield 28, 3) := by decide +kernel
theorem dX3_settle_25 : decode cX3_settle 25 = .ok (.if_icmp .ge 36, 3) := by decide +kernel
theorem dX3_settle_28 : decode cX3_settle 28 = .ok (.aload_n 1, 1) := by decide +kernel
theorem dX3_settle_29 : decode cX3_settle 29 = .ok (.iload_n 2, 1) := by decide +kernel
theorem dX3_settle_30 : decode cX3_settle 30 = .ok (.iload_n 3, 1) := by decide +kernel
theorem dX3_settle_31 : decode cX3_settle 31 = .ok (.aload_n 0, 1) := by decide +kernel
theorem dX3_settle_32 : decode cX3_settle 32 = .ok (.iconst 2, 1) := by decide +kernel
theorem dX3_settle_33 : decode cX3_settle 33 = .ok (.iload_n 2, 1) := by decide +kernel
theorem dX3_settle_34 : decode cX3_settle 34 = .ok (.aload_n 0, 1) := by decide +kernel
theorem dX3_settle_35 : decode cX3_settle 35 = .ok (.getfield 28, 3) := by decide +kernel
theorem dX3_settle_38 : decode cX3_settle 38 = .ok (.iconst 1, 1) := by decide +kernel
theorem dX3_settle_39 : decode cX3_settle 39 = .ok (.iadd, 1) := by decide +kernel
theorem dX3_settle_40 : decode cX3_settle 40 = .ok (.imul, 1) := by decide +kernel
theorem dX3_settle_41 : decode cX3_settle 41 = .ok (.iadd, 1) := by decide +kernel
theorem dX3_settle_42 : decode cX3_settle 42 = .ok (.iconst 1, 1) := by decide +kernel
theorem dX3_settle_43 : decode cX3_settle 43 = .ok (.iadd, 1) := by decide +kernel
theorem dX3_settle_44 : decode cX3_settle 44 = .ok (.iload_n 3, 1) := by decide +kernel
theorem dX3_settle_45 : decode cX3_settle 45 = .ok (.iadd, 1) := by decide +kernel
theorem dX3_settle_46 : decode cX3_settle 46 = .ok (.invokevirtual 38, 3) := by decide +kernel
theorem dX3_settle_49 : decode cX3_settle 49 = .ok (.bipush 48, 2) := by decide +kernel
theorem dX3_settle_51 : decode cX3_settle 51 = .ok (.isub, 1) := by decide +kernel
theorem dX3_settle_52 : decode cX3_settle 52 = .ok (.invokevirtual 51, 3) := by decide +kernel
theorem dX3_settle_55 : decode cX3_settle 55 = .ok (.iinc 3 1, 3) := by decide +kernel
theorem dX3_settle_58 : decode cX3_settle 58 = .ok (.goto (-38), 3) := by decide +kernel
theorem dX3_settle_61 : decode cX3_settle 61 = .ok (.iinc 2 1, 3) := by decide +kernel
theorem dX3_settle_64 : decode cX3_settle 64 = .ok (.goto (-54), 3) := by decide +kernel
theorem dX3_settle_67 : decode cX3_settle 67 = .ok (.aload_n 1, 1) := by decide +kernel
theorem dX3_settle_68 : decode cX3_settle 68 = .ok (.aload_n 0, 1) := by decide +kernel
theorem dX3_settle_69 : decode cX3_settle 69 = .ok (.getfield 19, 3) := by decide +kernel
theorem dX3_settle_72 : decode cX3_settle 72 = .ok (.aload_n 0, 1) := by decide +kernel
theorem dX3_settle_73 : decode cX3_settle 73 = .ok (.getfield 31, 3) := by decide +kernel
theorem dX3_settle_76 : decode cX3_settle 76 = .ok (.isub, 1) := by decide +kernel
theorem dX3_settle_77 : decode cX3_settle 77 = .ok (.iconst 3, 1) := by decide +kernel
theorem dX3_settle_78 : decode cX3_settle 78 = .ok (.idiv, 1) := by decide +kernel
theorem dX3_settle_79 : decode cX3_settle 79 = .ok (.putfield 55, 3) := by decide +kernel
theorem dX3_settle_82 : decode cX3_settle 82 = .ok (.iconst 0, 1) := by decide +kernel
theorem dX3_settle_83 : decode cX3_settle 83 = .ok (.istore_n 2, 1) := by decide +kernel
theorem dX3_settle_84 : decode cX3_settle 84 = .ok (.iload_n 2, 1) := by decide +kernel
theorem dX3_settle_85 : decode cX3_settle 85 = .ok (.aload_n 1, 1) := by decide +kernel
theorem dX3_settle_86 : decode cX3_settle 86 = .ok (.getfield 55, 3) := by decide +kernel
theorem dX3_settle_89 : decode cX3_settle 89 = .ok (.if_icmp .ge 55, 3) := by decide +kernel
theorem dX3_settle_92 : decode cX3_settle 92 = .ok (.aload_n 1, 1) := by decide +kernel
theorem dX3_settle_93 : decode cX3_settle 93 = .ok (.getfield 58, 3) := by decide +kernel
theorem dX3_settle_96 : decode cX3_settle 96 = .ok (.iload_n 2, 1) := by decide +kernel
theorem dX3_settle_97 : decode cX3_settle 97 = .ok (.aload_n 0, 1) := by decide +kernel
theorem dX3_settle_98 : decode cX3_settle 98 = .ok (.aload_n 0, 1) := by decide +kernel
theorem dX3_settle_99 : decode cX3_settle 99 = .ok (.getfield 31, 3) := by decide +kernel
theorem dX3_settle_102 : decode cX3_settle 102 = .ok (.iload_n 2, 1) := by decide +kernel
theorem dX3_settle_103 : decode cX3_settle 103 = .ok (.iconst 3, 1) := by decide +kernel
theorem dX3_settle_104 : decode cX3_settle 104 = .ok (.imul, 1) := by decide +kernel
theorem dX3_settle_105 : decode cX3_settle 105 = .ok (.iadd, 1) := by decide +kernel
theorem dX3_settle_106 : decode cX3_settle 106 = .ok (.iconst 1, 1) := by decide +kernel
theorem dX3_settle_107 : decode cX3_settle 107 = .ok (.iadd, 1) := by decide +kernel
theorem dX3_settle_108 : decode cX3_settle 108 = .ok (.invokevirtual 38, 3) := by decide +kernel
theorem dX3_settle_111 : decode cX3_settle 111 = .ok (.bipush 98, 2) := by decide +kernel
theorem dX3_settle_113 : decode cX3_settle 113 = .ok (.isub, 1) := by decide +kernel
theorem dX3_settle_114 : decode cX3_settle 114 = .ok (.iastore, 1) := by decide +kernel
theorem dX3_settle_115 : decode cX3_settle 115 = .ok (.aload_n 1, 1) := by decide +kernel
theorem dX3_settle_116 : decode cX3_settle 116 = .ok (.getfield 61, 3) := by decide +kernel
theorem dX3_settle_119 : decode cX3_settle 119 = .ok (.iload_n 2, 1) := by decide +kernel
theorem dX3_settle_120 : decode cX3_settle 120 = .ok (.aload_n 0, 1) := by decide +kernel
theorem dX3_settle_121 : decode cX3_settle 121 = .ok (.aload_n 0, 1) := by decide +kernel
theorem dX3_settle_122 : decode cX3_settle 122 = .ok (.getfield 31, 3) := by decide +kernel
theorem dX3_settle_125 : decode cX3_settle 125 = .ok (.iload_n 2, 1) := by decide +kernel
theorem dX3_settle_126 : decode cX3_settle 126 = .ok (.iconst 3, 1) := by decide +kernel
theorem dX3_settle_127 : decode cX3_settle 127 = .ok (.imul, 1) := by decide +kernel
theorem dX3_settle_128 : decode cX3_settle 128 = .ok (.iadd, 1) := by decide +kernel
theorem dX3_settle_129 : decode cX3_settle 129 = .ok (.iconst 2, 1) := by decide +kernel
theorem dX3_settle_130 : decode cX3_settle 130 = .ok (.iadd, 1) := by decide +kernel
theorem dX3_settle_131 : decode cX3_settle 131 = .ok (.invokevirtual 38, 3) := by decide +kernel
theorem dX3_settle_134 : decode cX3_settle 134 = .ok (.bipush 48, 2) := by decide +kernel
theorem dX3_settle_136 : decode cX3_settle 136 = .ok (.isub, 1) := by decide +kernel
theorem dX3_settle_137 : decode cX3_settle 137 = .ok (.iastore, 1) := by decide +kernel
theorem dX3_settle_138 : decode cX3_settle 138 = .ok (.iinc 2 1, 3) := by decide +kernel
theorem dX3_settle_141 : decode cX3_settle 141 = .ok (.goto (-57), 3) := by decide +kernel
theorem dX3_settle_144 : decode cX3_settle 144 = .ok (.return_, 1) := by decide +kernel
set_option maxRecDepth 20000 in
theorem ggX4_init_X2_init : GoodIn wsX4_init wsX2_init := goodIn_r _ [21, 22, 2, 3, 23, 24, 25, 26, 27, 28, 42, 43, 44, 45, 46] (by decide +kernel) (by decide +kernel)
set_option maxRecDepth 20000 in
theorem gX4_init_X2_init_n11 : GoodIn wsX4_init (wsX2_init) := ggX4_init_X2_init
set_option maxRecDepth 20000 in
theorem ggX4_init_X0_init : GoodIn wsX4_init wsX0_init := goodIn_r _ [30, 31, 2, 3, 32, 33, 34, 35, 54, 55, 56, 57] (by decide +kernel) (by decide +kernel)
set_option maxRecDepth 20000 in
theorem gX4_init_X0_init_n43 : GoodIn wsX4_init (wsX0_init) := ggX4_init_X0_init
set_option maxRecDepth 20000 in
theorem ggX4_init_X1_init : GoodIn wsX4_init wsX1_init := goodIn_r _ [37, 38, 2, 3, 23, 39, 40, 41, 58, 59, 60] (by decide +kernel) (by decide +kernel)
set_option maxRecDepth 20000 in
theorem gX4_init_X1_init_n44 : GoodIn wsX4_init (wsX1_init) := ggX4_init_X1_init
theorem dX4_init_0 : decode cX4_init 0 = .ok (.aload_n 0, 1) := by decide +kernel
theorem dX4_init_1 : decode cX4_init 1 = .ok (.invokespecial 3, 3) := by decide +kernel
theorem dX4_init_4 : decode cX4_init 4 = .ok (.aload_n 0, 1) := by decide +kernel
theorem dX4_init_5 : decode cX4_init 5 = .ok (.new 9, 3) := by decide +kernel
theorem dX4_init_8 : decode cX4_init 8 = .ok (.dup, 1) := by decide +kernel
theorem dX4_init_9 : decode cX4_init 9 = .ok (.invokespecial 11, 3) := by decide +kernel
theorem dX4_init_12 : decode cX4_init 12 = .ok (.putfield 12, 3) := by decide +kernel
theorem dX4_init_15 : decode cX4_init 15 = .ok (.aload_n 0, 1) := by decide +kernel
theorem dX4_init_16 : decode cX4_init 16 = .ok (.new 9, 3) := by decide +kernel
