theorem dX4_forge_170 : decode cX4_forge 170 = .ok (.iload_n 1, 1) := by decide +kernel
theorem dX4_forge_171 : decode cX4_forge 171 = .ok (.iload_n 3, 1) := by decide +kernel
theorem dX4_forge_172 : decode cX4_forge 172 = .ok (.invokevirtual 113, 3) := by decide +kernel
theorem dX4_forge_175 : decode cX4_forge 175 = .ok (.iload_n 2, 1) := by decide +kernel
theorem dX4_forge_176 : decode cX4_forge 176 = .ok (.if_icmp .ne 15, 3) := by decide +kernel
theorem dX4_forge_179 : decode cX4_forge 179 = .ok (.iload 10, 2) := by decide +kernel
theorem dX4_forge_181 : decode cX4_forge 181 = .ok (.istore 5, 2) := by decide +kernel
theorem dX4_forge_183 : decode cX4_forge 183 = .ok (.iload 8, 2) := by decide +kernel
theorem dX4_forge_185 : decode cX4_forge 185 = .ok (.istore 6, 2) := by decide +kernel
theorem dX4_forge_187 : decode cX4_forge 187 = .ok (.iload 9, 2) := by decide +kernel
theorem dX4_forge_189 : decode cX4_forge 189 = .ok (.istore 7, 2) := by decide +kernel
theorem dX4_forge_191 : decode cX4_forge 191 = .ok (.aload_n 0, 1) := by decide +kernel
theorem dX4_forge_192 : decode cX4_forge 192 = .ok (.getfield 18, 3) := by decide +kernel
theorem dX4_forge_195 : decode cX4_forge 195 = .ok (.iload 8, 2) := by decide +kernel
theorem dX4_forge_197 : decode cX4_forge 197 = .ok (.iload 9, 2) := by decide +kernel
theorem dX4_forge_199 : decode cX4_forge 199 = .ok (.aload_n 0, 1) := by decide +kernel
theorem dX4_forge_200 : decode cX4_forge 200 = .ok (.getfield 12, 3) := by decide +kernel
theorem dX4_forge_203 : decode cX4_forge 203 = .ok (.iload 8, 2) := by decide +kernel
theorem dX4_forge_205 : decode cX4_forge 205 = .ok (.iload 9, 2) := by decide +kernel
theorem dX4_forge_207 : decode cX4_forge 207 = .ok (.invokevirtual 95, 3) := by decide +kernel
theorem dX4_forge_210 : decode cX4_forge 210 = .ok (.invokevirtual 106, 3) := by decide +kernel
theorem dX4_forge_213 : decode cX4_forge 213 = .ok (.iinc 9 1, 3) := by decide +kernel
theorem dX4_forge_216 : decode cX4_forge 216 = .ok (.goto (-105), 3) := by decide +kernel
theorem dX4_forge_219 : decode cX4_forge 219 = .ok (.iinc 8 1, 3) := by decide +kernel
theorem dX4_forge_222 : decode cX4_forge 222 = .ok (.goto (-126), 3) := by decide +kernel
theorem dX4_forge_225 : decode cX4_forge 225 = .ok (.iload 4, 2) := by decide +kernel
theorem dX4_forge_227 : decode cX4_forge 227 = .ok (.ifCond .ne 8, 3) := by decide +kernel
theorem dX4_forge_230 : decode cX4_forge 230 = .ok (.iload 5, 2) := by decide +kernel
theorem dX4_forge_232 : decode cX4_forge 232 = .ok (.goto 16, 3) := by decide +kernel
theorem dX4_forge_235 : decode cX4_forge 235 = .ok (.iload 4, 2) := by decide +kernel
theorem dX4_forge_237 : decode cX4_forge 237 = .ok (.iconst 1, 1) := by decide +kernel
theorem dX4_forge_238 : decode cX4_forge 238 = .ok (.if_icmp .ne 8, 3) := by decide +kernel
theorem dX4_forge_241 : decode cX4_forge 241 = .ok (.iload 6, 2) := by decide +kernel
theorem dX4_forge_243 : decode cX4_forge 243 = .ok (.goto 5, 3) := by decide +kernel
theorem dX4_forge_246 : decode cX4_forge 246 = .ok (.iload 7, 2) := by decide +kernel
theorem dX4_forge_248 : decode cX4_forge 248 = .ok (.ireturn, 1) := by decide +kernel
set_option maxRecDepth 20000 in
theorem ggX4_forgedPence_X2_nextOf : GoodIn wsX4_forgedPence wsX2_nextOf := goodIn_r _ [7, 8, 9, 10, 11, 6, 12, 13, 26, 27, 28, 29, 30] (by decide +kernel) (by decide +kernel)
set_option maxRecDepth 20000 in
theorem gX4_forgedPence_X2_nextOf : GoodIn wsX4_forgedPence (wsV RX4 110 RX2 yX2_nextOf wsX2_nextOf) := goodIn_app (goodIn_of _ (by decide +kernel)) ggX4_forgedPence_X2_nextOf
set_option maxRecDepth 20000 in
theorem ggX4_forgedPence_X2_debt : GoodIn wsX4_forgedPence wsX2_debt := goodIn_r _ [12, 13, 26, 27, 28, 29, 30] (by decide +kernel) (by decide +kernel)
set_option maxRecDepth 20000 in
theorem gX4_forgedPence_X2_debt : GoodIn wsX4_forgedPence (wsV RX4 95 RX2 yX2_debt wsX2_debt) := goodIn_app (goodIn_of _ (by decide +kernel)) ggX4_forgedPence_X2_debt
set_option maxRecDepth 20000 in
theorem ggX4_forgedPence_X2_setDebt : GoodIn wsX4_forgedPence wsX2_setDebt := goodIn_r _ [18, 13, 26, 27, 28, 29, 30] (by decide +kernel) (by decide +kernel)
set_option maxRecDepth 20000 in
theorem gX4_forgedPence_X2_setDebt : GoodIn wsX4_forgedPence (wsV RX4 106 RX2 yX2_setDebt wsX2_setDebt) := goodIn_app (goodIn_of _ (by decide +kernel)) ggX4_forgedPence_X2_setDebt
theorem dX4_forgedPence_0 : decode cX4_forgedPence 0 = .ok (.iload_n 1, 1) := by decide +kernel
theorem dX4_forgedPence_1 : decode cX4_forgedPence 1 = .ok (.iload_n 2, 1) := by decide +kernel
theorem dX4_forgedPence_2 : decode cX4_forgedPence 2 = .ok (.if_icmp .eq 15, 3) := by decide +kernel
theorem dX4_forgedPence_5 : decode cX4_forgedPence 5 = .ok (.aload_n 0, 1) := by decide +kernel
theorem dX4_forgedPence_6 : decode cX4_forgedPence 6 = .ok (.getfield 12, 3) := by decide +kernel
theorem dX4_forgedPence_9 : decode cX4_forgedPence 9 = .ok (.iload_n 1, 1) := by decide +kernel
theorem dX4_forgedPence_10 : decode cX4_forgedPence 10 = .ok (.invokevirtual 110, 3) := by decide +kernel
theorem dX4_forgedPence_13 : decode cX4_forgedPence 13 = .ok (.iload_n 2, 1) := by decide +kernel
theorem dX4_forgedPence_14 : decode cX4_forgedPence 14 = .ok (.if_icmp .ne 6, 3) := by decide +kernel
theorem dX4_forgedPence_17 : decode cX4_forgedPence 17 = .ok (.bipush (-9), 2) := by decide +kernel
theorem dX4_forgedPence_19 : decode cX4_forgedPence 19 = .ok (.ireturn, 1) := by decide +kernel
theorem dX4_forgedPence_20 : decode cX4_forgedPence 20 = .ok (.aload_n 0, 1) := by decide +kernel
theorem dX4_forgedPence_21 : decode cX4_forgedPence 21 = .ok (.getfield 12, 3) := by decide +kernel
theorem dX4_forgedPence_24 : decode cX4_forgedPence 24 = .ok (.iload_n 1, 1) := by decide +kernel
theorem dX4_forgedPence_25 : decode cX4_forgedPence 25 = .ok (.iload_n 2, 1) := by decide +kernel
theorem dX4_forgedPence_26 : decode cX4_forgedPence 26 = .ok (.invokevirtual 95, 3) := by decide +kernel
theorem dX4_forgedPence_29 : decode cX4_forgedPence 29 = .ok (.istore_n 3, 1) := by decide +kernel
theorem dX4_forgedPence_30 : decode cX4_forgedPence 30 = .ok (.iload_n 3, 1) := by decide +kernel
theorem dX4_forgedPence_31 : decode cX4_forgedPence 31 = .ok (.iconst 1, 1) := by decide +kernel
theorem dX4_forgedPence_32 : decode cX4_forgedPence 32 = .ok (.iadd, 1) := by decide +kernel
theorem dX4_forgedPence_33 : decode cX4_forgedPence 33 = .ok (.istore 4, 2) := by decide +kernel
theorem dX4_forgedPence_35 : decode cX4_forgedPence 35 = .ok (.iload 4, 2) := by decide +kernel
theorem dX4_forgedPence_37 : decode cX4_forgedPence 37 = .ok (.bipush 9, 2) := by decide +kernel
theorem dX4_forgedPence_39 : decode cX4_forgedPence 39 = .ok (.if_icmp .gt 37, 3) := by decide +kernel
theorem dX4_forgedPence_42 : decode cX4_forgedPence 42 = .ok (.aload_n 0, 1) := by decide +kernel
theorem dX4_forgedPence_43 : decode cX4_forgedPence 43 = .ok (.getfield 18, 3) := by decide +kernel
theorem dX4_forgedPence_46 : decode cX4_forgedPence 46 = .ok (.iload_n 1, 1) := by decide +kernel
theorem dX4_forgedPence_47 : decode cX4_forgedPence 47 = .ok (.iload_n 2, 1) := by decide +kernel
theorem dX4_forgedPence_48 : decode cX4_forgedPence 48 = .ok (.iload 4, 2) := by decide +kernel
theorem dX4_forgedPence_50 : decode cX4_forgedPence 50 = .ok (.invokevirtual 106, 3) := by decide +kernel
theorem dX4_forgedPence_53 : decode cX4_forgedPence 53 = .ok (.aload_n 0, 1) := by decide +kernel
theorem dX4_forgedPence_54 : decode cX4_forgedPence 54 = .ok (.getfield 18, 3) := by decide +kernel
theorem dX4_forgedPence_57 : decode cX4_forgedPence 57 = .ok (.iload_n 1, 1) := by decide +kernel
theorem dX4_forgedPence_58 : decode cX4_forgedPence 58 = .ok (.invokevirtual 110, 3) := by decide +kernel
theorem dX4_forgedPence_61 : decode cX4_forgedPence 61 = .ok (.iload_n 2, 1) := by decide +kernel
theorem dX4_forgedPence_62 : decode cX4_forgedPence 62 = .ok (.if_icmp .ne 8, 3) := by decide +kernel
theorem dX4_forgedPence_65 : decode cX4_forgedPence 65 = .ok (.iload 4, 2) := by decide +kernel
theorem dX4_forgedPence_67 : decode cX4_forgedPence 67 = .ok (.iload_n 3, 1) := by decide +kernel
theorem dX4_forgedPence_68 : decode cX4_forgedPence 68 = .ok (.isub, 1) := by decide +kernel
theorem dX4_forgedPence_69 : decode cX4_forgedPence 69 = .ok (.ireturn, 1) := by decide +kernel
theorem dX4_forgedPence_70 : decode cX4_forgedPence 70 = .ok (.iinc 4 1, 3) := by decide +kernel
theorem dX4_forgedPence_73 : decode cX4_forgedPence 73 = .ok (.goto (-38), 3) := by decide +kernel
theorem dX4_forgedPence_76 : decode cX4_forgedPence 76 = .ok (.bipush (-9), 2) := by decide +kernel
theorem dX4_forgedPence_78 : decode cX4_forgedPence 78 = .ok (.ireturn, 1) := by decide +kernel
set_option maxRecDepth 20000 in
theorem ggX4_reading_X2_hasBoy : GoodIn wsX4_reading wsX2_hasBoy := goodIn_r _ [6, 7, 39, 40, 41, 42, 43] (by decide +kernel) (by decide +kernel)
set_option maxRecDepth 20000 in
theorem gX4_reading_X2_hasBoy : GoodIn wsX4_reading (wsV RX4 79 RX2 yX2_hasBoy wsX2_hasBoy) := goodIn_app (goodIn_of _ (by decide +kernel)) ggX4_reading_X2_hasBoy
set_option maxRecDepth 20000 in
theorem ggX4_reading_X2_hasMaster : GoodIn wsX4_reading wsX2_hasMaster := goodIn_r _ [11, 12, 39, 40, 41, 42, 43] (by decide +kernel) (by decide +kernel)
set_option maxRecDepth 20000 in
theorem gX4_reading_X2_hasMaster : GoodIn wsX4_reading (wsV RX4 92 RX2 yX2_hasMaster wsX2_hasMaster) := goodIn_app (goodIn_of _ (by decide +kernel)) ggX4_reading_X2_hasMaster
set_option maxRecDepth 20000 in
theorem ggX4_reading_X4_isWithin : GoodIn wsX4_reading wsX4_isWithin := goodIn_r _ [16] (by decide +kernel) (by decide +kernel)
set_option maxRecDepth 20000 in
theorem gX4_reading_X4_isWithin : GoodIn wsX4_reading (va_wsS RX4 103 yX4_isWithin wsX4_isWithin) := goodIn_app (goodIn_of _ (by decide +kernel)) ggX4_reading_X4_isWithin
set_option maxRecDepth 20000 in
theorem ggX4_reading_X4_noted : GoodIn wsX4_reading wsX4_noted := goodIn_r _ [20, 21, 22, 23, 24, 25, 26, 27, 28, 29, 30, 31, 32, 33, 34, 35, 36, 37, 38, 44, 45, 46, 47] (by decide +kernel) (by decide +kernel)
set_option maxRecDepth 20000 in
theorem gX4_reading_X4_noted : GoodIn wsX4_reading (wsV RX4 148 RX4 yX4_noted wsX4_noted) := goodIn_app (goodIn_of _ (by decide +kernel)) ggX4_reading_X4_noted
theorem dX4_reading_0 : decode cX4_reading 0 = .ok (.aload_n 0, 1) := by decide +kernel
theorem dX4_reading_1 : decode cX4_reading 1 = .ok (.getfield 12, 3) := by decide +kernel
theorem dX4_reading_4 : decode cX4_reading 4 = .ok (.iload_n 1, 1) := by decide +kernel
theorem dX4_reading_5 : decode cX4_reading 5 = .ok (.invokevirtual 79, 3) := by decide +kernel
theorem dX4_reading_8 : decode cX4_reading 8 = .ok (.ifCond .eq 14, 3) := by decide +kernel
theorem dX4_reading_11 : decode cX4_reading 11 = .ok (.aload_n 0, 1) := by decide +kernel
theorem dX4_reading_12 : decode cX4_reading 12 = .ok (.getfield 12, 3) := by decide +kernel
theorem dX4_reading_15 : decode cX4_reading 15 = .ok (.iload_n 3, 1) := by decide +kernel
theorem dX4_reading_16 : decode cX4_reading 16 = .ok (.invokevirtual 92, 3) := by decide +kernel
theorem dX4_reading_19 : decode cX4_reading 19 = .ok (.ifCond .ne 5, 3) := by decide +kernel
theorem dX4_reading_22 : decode cX4_reading 22 = .ok (.iconst (-1), 1) := by decide +kernel
theorem dX4_reading_23 : decode cX4_reading 23 = .ok (.ireturn, 1) := by decide +kernel
theorem dX4_reading_24 : decode cX4_reading 24 = .ok (.iload_n 2, 1) := by decide +kernel
theorem dX4_reading_25 : decode cX4_reading 25 = .ok (.bipush 20, 2) := by decide +kernel
theorem dX4_reading_27 : decode cX4_reading 27 = .ok (.invokestatic 103, 3) := by decide +kernel
theorem dX4_reading_30 : decode cX4_reading 30 = .ok (.ifCond .ne 6, 3) := by decide +kernel
theorem dX4_reading_33 : decode cX4_reading 33 = .ok (.bipush (-2), 2) := by decide +kernel
theorem dX4_reading_35 : decode cX4_reading 35 = .ok (.ireturn, 1) := by decide +kernel
theorem dX4_reading_36 : decode cX4_reading 36 = .ok (.aload_n 0, 1) := by decide +kernel
theorem dX4_reading_37 : decode cX4_reading 37 = .ok (.iload_n 1, 1) := by decide +kernel
theorem dX4_reading_38 : decode cX4_reading 38 = .ok (.iload_n 2, 1) := by decide +kernel
theorem dX4_reading_39 : decode cX4_reading 39 = .ok (.iload_n 3, 1) := by decide +kernel
theorem dX4_reading_40 : decode cX4_reading 40 = .ok (.iconst (-1), 1) := by decide +kernel
theorem dX4_reading_41 : decode cX4_reading 41 = .ok (.invokevirtual 148, 3) := by decide +kernel
theorem dX4_reading_44 : decode cX4_reading 44 = .ok (.ireturn, 1) := by decide +kernel
set_option maxRecDepth 20000 in
theorem ggX4_exam_X2_hasBoy : GoodIn wsX4_exam wsX2_hasBoy := goodIn_r _ [6, 7, 39, 40, 41, 42, 43] (by decide +kernel) (by decide +kernel)
set_option maxRecDepth 20000 in
theorem gX4_exam_X2_hasBoy : GoodIn wsX4_exam (wsV RX4 79 RX2 yX2_hasBoy wsX2_hasBoy) := goodIn_app (goodIn_of _ (by decide +kernel)) ggX4_exam_X2_hasBoy
set_option maxRecDepth 20000 in
theorem ggX4_exam_X2_hasMaster : GoodIn wsX4_exam wsX2_hasMaster := goodIn_r _ [11, 12, 39, 40, 41, 42, 43] (by decide +kernel) (by decide +kernel)
set_option maxRecDepth 20000 in
theorem gX4_exam_X2_hasMaster : GoodIn wsX4_exam (wsV RX4 92 RX2 yX2_hasMaster wsX2_hasMaster) := goodIn_app (goodIn_of _ (by decide +kernel)) ggX4_exam_X2_hasMaster
set_option maxRecDepth 20000 in
theorem ggX4_exam_X4_isWithin : GoodIn wsX4_exam wsX4_isWithin := goodIn_r _ [16] (by decide +kernel) (by decide +kernel)
set_option maxRecDepth 20000 in
theorem gX4_exam_X4_isWithin : GoodIn wsX4_exam (va_wsS RX4 103 yX4_isWithin wsX4_isWithin) := goodIn_app (goodIn_of _ (by decide +kernel)) ggX4_exam_X4_isWithin
set_option maxRecDepth 20000 in
theorem ggX4_exam_X4_noted : GoodIn wsX4_exam wsX4_noted := goodIn_r _ [20, 21, 22, 23, 24, 25, 26, 27, 28, 29, 30, 31, 32, 33, 34, 35, 36, 37, 38, 44, 45, 46, 47] (by decide +kernel) (by decide +kernel)
set_option maxRecDepth 20000 in
theorem gX4_exam_X4_noted : GoodIn wsX4_exam (wsV RX4 148 RX4 yX4_noted wsX4_noted) := goodIn_app (goodIn_of _ (by decide +kernel)) ggX4_exam_X4_noted
theorem dX4_exam_0 : decode cX4_exam 0 = .ok (.aload_n 0, 1) := by decide +kernel
theorem dX4_exam_1 : decode cX4_exam 1 = .ok (.getfield 12, 3) := by decide +kernel
theorem dX4_exam_4 : decode cX4_exam 4 = .ok (.iload_n 1, 1) := by decide +kernel
theorem dX4_exam_5 : decode cX4_exam 5 = .ok (.invokevirtual 79, 3) := by decide +kernel
theorem dX4_exam_8 : decode cX4_exam 8 = .ok (.ifCond .eq 14, 3) := by decide +kernel
theorem dX4_exam_11 : decode cX4_exam 11 = .ok (.aload_n 0, 1) := by decide +kernel
theorem dX4_exam_12 : decode cX4_exam 12 = .ok (.getfield 12, 3) := by decide +kernel
theorem dX4_exam_15 : decode cX4_exam 15 = .ok (.iload_n 3, 1) := by decide +kernel
theorem dX4_exam_16 : decode cX4_exam 16 = .ok (.invokevirtual 92, 3) := by decide +kernel
theorem dX4_exam_19 : decode cX4_exam 19 = .ok (.ifCond .ne 5, 3) := by decide +kernel
theorem dX4_exam_22 : decode cX4_exam 22 = .ok (.iconst (-1), 1) := by decide +kernel
theorem dX4_exam_23 : decode cX4_exam 23 = .ok (.ireturn, 1) := by decide +kernel
theorem dX4_exam_24 : decode cX4_exam 24 = .ok (.iload_n 2, 1) := by decide +kernel
theorem dX4_exam_25 : decode cX4_exam 25 = .ok (.bipush 20, 2) := by decide +kernel
theorem dX4_exam_27 : decode cX4_exam 27 = .ok (.invokestatic 103, 3) := by decide +kernel
theorem dX4_exam_30 : decode cX4_exam 30 = .ok (.ifCond .eq 13, 3) := by decide +kernel
theorem dX4_exam_33 : decode cX4_exam 33 = .ok (.iload 4, 2) := by decide +kernel
theorem dX4_exam_35 : decode cX4_exam 35 = .ok (.bipush 40, 2) := by decide +kernel
theorem dX4_exam_37 : decode cX4_exam 37 = .ok (.invokestatic 103, 3) := by decide +kernel
theorem dX4_exam_40 : decode cX4_exam 40 = .ok (.ifCond .ne 6, 3) := by decide +kernel
theorem dX4_exam_43 : decode cX4_exam 43 = .ok (.bipush (-2), 2) := by decide +kernel
theorem dX4_exam_45 : decode cX4_exam 45 = .ok (.ireturn, 1) := by decide +kernel
theorem dX4_exam_46 : decode cX4_exam 46 = .ok (.aload_n 0, 1) := by decide +kernel
theorem dX4_exam_47 : decode cX4_exam 47 = .ok (.iload_n 1, 1) := by decide +kernel
theorem dX4_exam_48 : decode cX4_exam 48 = .ok (.iload_n 2, 1) := by decide +kernel
theorem dX4_exam_49 : decode cX4_exam 49 = .ok (.iload_n 3, 1) := by decide +kernel
theorem dX4_exam_50 : decode cX4_exam 50 = .ok (.iload 4, 2) := by decide +kernel
theorem dX4_exam_52 : decode cX4_exam 52 = .ok (.invokevirtual 148, 3) := by decide +kernel
theorem dX4_exam_55 : decode cX4_exam 55 = .ok (.ireturn, 1) := by decide +kernel
set_option maxRecDepth 20000 in
theorem ggX4_noted_X0_note : GoodIn wsX4_noted wsX0_note := goodIn_r _ [7, 8, 9, 10, 11, 19, 20, 21, 22] (by decide +kernel) (by decide +kernel)
set_option maxRecDepth 20000 in
theorem gX4_noted_X0_note : GoodIn wsX4_noted (wsV RX4 152 RX0 yX0_note wsX0_note) := goodIn_app (goodIn_of _ (by decide +kernel)) ggX4_noted_X0_note
theorem dX4_noted_0 : decode cX4_noted 0 = .ok (.aload_n 0, 1) := by decide +kernel
theorem dX4_noted_1 : decode cX4_noted 1 = .ok (.getfield 27, 3) := by decide +kernel
theorem dX4_noted_4 : decode cX4_noted 4 = .ok (.bipush 8, 2) := by decide +kernel
theorem dX4_noted_6 : decode cX4_noted 6 = .ok (.if_icmp .lt 6, 3) := by decide +kernel
theorem dX4_noted_9 : decode cX4_noted 9 = .ok (.bipush (-4), 2) := by decide +kernel
theorem dX4_noted_11 : decode cX4_noted 11 = .ok (.ireturn, 1) := by decide +kernel
theorem dX4_noted_12 : decode cX4_noted 12 = .ok (.aload_n 0, 1) := by decide +kernel
theorem dX4_noted_13 : decode cX4_noted 13 = .ok (.getfield 23, 3) := by decide +kernel
theorem dX4_noted_16 : decode cX4_noted 16 = .ok (.aload_n 0, 1) := by decide +kernel
theorem dX4_noted_17 : decode cX4_noted 17 = .ok (.getfield 27, 3) := by decide +kernel
theorem dX4_noted_20 : decode cX4_noted 20 = .ok (.aaload, 1) := by decide +kernel
theorem dX4_noted_21 : decode cX4_noted 21 = .ok (.iload_n 1, 1) := by decide +kernel
theorem dX4_noted_22 : decode cX4_noted 22 = .ok (.iload_n 2, 1) := by decide +kernel
theorem dX4_noted_23 : decode cX4_noted 23 = .ok (.iload_n 3, 1) := by decide +kernel
theorem dX4_noted_24 : decode cX4_noted 24 = .ok (.iload 4, 2) := by decide +kernel
theorem dX4_noted_26 : decode cX4_noted 26 = .ok (.invokevirtual 152, 3) := by decide +kernel
theorem dX4_noted_29 : decode cX4_noted 29 = .ok (.aload_n 0, 1) := by decide +kernel
theorem dX4_noted_30 : decode cX4_noted 30 = .ok (.dup, 1) := by decide +kernel
theorem dX4_noted_31 : decode cX4_noted 31 = .ok (.getfield 27, 3) := by decide +kernel
theorem dX4_noted_34 : decode cX4_noted 34 = .ok (.iconst 1, 1) := by decide +kernel
theorem dX4_noted_35 : decode cX4_noted 35 = .ok (.iadd, 1) := by decide +kernel
theorem dX4_noted_36 : decode cX4_noted 36 = .ok (.putfield 27, 3) := by decide +kernel
theorem dX4_noted_39 : decode cX4_noted 39 = .ok (.aload_n 0, 1) := by decide +kernel
theorem dX4_noted_40 : decode cX4_noted 40 = .ok (.getfield 27, 3) := by decide +kernel
theorem dX4_noted_43 : decode cX4_noted 43 = .ok (.iconst 1, 1) := by decide +kernel
theorem dX4_noted_44 : decode cX4_noted 44 = .ok (.isub, 1) := by decide +kernel
theorem dX4_noted_45 : decode cX4_noted 45 = .ok (.ireturn, 1) := by decide +kernel
set_option maxRecDepth 20000 in
theorem ggX4_back_X4_isWithin : GoodIn wsX4_back wsX4_isWithin := goodIn_r _ [5] (by decide +kernel) (by decide +kernel)
set_option maxRecDepth 20000 in
theorem gX4_back_X4_isWithin : GoodIn wsX4_back (va_wsS RX4 103 yX4_isWithin wsX4_isWithin) := goodIn_app (goodIn_of _ (by decide +kernel)) ggX4_back_X4_isWithin
theorem dX4_back_0 : decode cX4_back 0 = .ok (.iload_n 1, 1) := by decide +kernel
theorem dX4_back_1 : decode cX4_back 1 = .ok (.aload_n 0, 1) := by decide +kernel
theorem dX4_back_2 : decode cX4_back 2 = .ok (.getfield 27, 3) := by decide +kernel
theorem dX4_back_5 : decode cX4_back 5 = .ok (.invokestatic 103, 3) := by decide +kernel
theorem dX4_back_8 : decode cX4_back 8 = .ok (.ifCond .ne 6, 3) := by decide +kernel
theorem dX4_back_11 : decode cX4_back 11 = .ok (.bipush (-2), 2) := by decide +kernel
theorem dX4_back_13 : decode cX4_back 13 = .ok (.ireturn, 1) := by decide +kernel
theorem dX4_back_14 : decode cX4_back 14 = .ok (.aload_n 0, 1) := by decide +kernel
theorem dX4_back_15 : decode cX4_back 15 = .ok (.dup, 1) := by decide +kernel
theorem dX4_back_16 : decode cX4_back 16 = .ok (.getfield 27, 3) := by decide +kernel
theorem dX4_back_19 : decode cX4_back 19 = .ok (.iload_n 1, 1) := by decide +kernel
theorem dX4_back_20 : decode cX4_back 20 = .ok (.isub, 1) := by decide +kernel
theorem dX4_back_21 : decode cX4_back 21 = .ok (.putfield 27, 3) := by decide +kernel
theorem dX4_back_24 : decode cX4_back 24 = .ok (.aload_n 0, 1) := by decide +kernel
theorem dX4_back_25 : decode cX4_back 25 = .ok (.getfield 27, 3) := by decide +kernel
theorem dX4_back_28 : decode cX4_back 28 = .ok (.ireturn, 1) := by decide +kernel
set_option maxRecDepth 20000 in
theorem ggX4_debts_X2_hasDebt : GoodIn wsX4_debts wsX2_hasDebt := goodIn_r _ [7, 8, 9, 10, 6, 11, 12, 74, 75, 76, 77, 78] (by decide +kernel) (by decide +kernel)
set_option maxRecDepth 20000 in
theorem gX4_debts_X2_hasDebt : GoodIn wsX4_debts (wsV RX4 99 RX2 yX2_hasDebt wsX2_hasDebt) := goodIn_app (goodIn_of _ (by decide +kernel)) ggX4_debts_X2_hasDebt
set_option maxRecDepth 20000 in
theorem ggX4_debts_X2_takeOver : GoodIn wsX4_debts wsX2_takeOver := goodIn_r _ [16, 17, 18, 19, 20, 21, 22, 23, 12, 24, 74, 75, 76, 77, 78] (by decide +kernel) (by decide +kernel)
set_option maxRecDepth 20000 in
theorem gX4_debts_X2_takeOver : GoodIn wsX4_debts (wsV RX4 142 RX2 yX2_takeOver wsX2_takeOver) := goodIn_app (goodIn_of _ (by decide +kernel)) ggX4_debts_X2_takeOver
set_option maxRecDepth 20000 in
theorem ggX4_debts_X2_setDebt : GoodIn wsX4_debts wsX2_setDebt := goodIn_r _ [28, 17, 74, 75, 76, 77, 78] (by decide +kernel) (by decide +kernel)
set_option maxRecDepth 20000 in
theorem gX4_debts_X2_setDebt : GoodIn wsX4_debts (wsV RX4 106 RX2 yX2_setDebt wsX2_setDebt) := goodIn_app (goodIn_of _ (by decide +kernel)) ggX4_debts_X2_setDebt
set_option maxRecDepth 20000 in
theorem ggX4_debts_X4_bitIfTrialFits : GoodIn wsX4_debts wsX4_bitIfTrialFits := goodIn_r _ [33, 34, 35, 2, 36, 37, 38, 39, 40, 41, 42, 43, 44, 45, 46, 47, 6, 48, 23, 49, 50, 51, 52, 53, 54, 55, 56, 12, 57, 58, 59, 60, 17, 61, 62, 63, 64, 22, 65, 32, 66, 67, 68, 69, 70, 71, 72, 73, 79, 80, 81, 82, 74, 75, 76, 77, 78] (by decide +kernel) (by decide +kernel)
set_option maxRecDepth 20000 in
theorem gX4_debts_X4_bitIfTrialFits : GoodIn wsX4_debts (wsV RX4 156 RX4 yX4_bitIfTrialFits wsX4_bitIfTrialFits) := goodIn_app (goodIn_of _ (by decide +kernel)) ggX4_debts_X4_bitIfTrialFits
theorem dX4_debts_0 : decode cX4_debts 0 = .ok (.aload_n 0, 1) := by decide +kernel
theorem dX4_debts_1 : decode cX4_debts 1 = .ok (.getfield 12, 3) := by decide +kernel
theorem dX4_debts_4 : decode cX4_debts 4 = .ok (.iload_n 1, 1) := by decide +kernel
theorem dX4_debts_5 : decode cX4_debts 5 = .ok (.iload_n 2, 1) := by decide +kernel
theorem dX4_debts_6 : decode cX4_debts 6 = .ok (.invokevirtual 99, 3) := by decide +kernel
theorem dX4_debts_9 : decode cX4_debts 9 = .ok (.ifCond .ne 5, 3) := by decide +kernel
theorem dX4_debts_12 : decode cX4_debts 12 = .ok (.iconst (-1), 1) := by decide +kernel
theorem dX4_debts_13 : decode cX4_debts 13 = .ok (.ireturn, 1) := by decide +kernel
theorem dX4_debts_14 : decode cX4_debts 14 = .ok (.aload_n 0, 1) := by decide +kernel
theorem dX4_debts_15 : decode cX4_debts 15 = .ok (.getfield 18, 3) := by decide +kernel
theorem dX4_debts_18 : decode cX4_debts 18 = .ok (.aload_n 0, 1) := by decide +kernel
theorem dX4_debts_19 : decode cX4_debts 19 = .ok (.getfield 12, 3) := by decide +kernel
theorem dX4_debts_22 : decode cX4_debts 22 = .ok (.invokevirtual 142, 3) := by decide +kernel
theorem dX4_debts_25 : decode cX4_debts 25 = .ok (.iconst 0, 1) := by decide +kernel
theorem dX4_debts_26 : decode cX4_debts 26 = .ok (.istore_n 3, 1) := by decide +kernel
theorem dX4_debts_27 : decode cX4_debts 27 = .ok (.iconst 0, 1) := by decide +kernel
theorem dX4_debts_28 : decode cX4_debts 28 = .ok (.istore 4, 2) := by decide +kernel
theorem dX4_debts_30 : decode cX4_debts 30 = .ok (.iload 4, 2) := by decide +kernel
theorem dX4_debts_32 : decode cX4_debts 32 = .ok (.bipush 9, 2) := by decide +kernel
theorem dX4_debts_34 : decode cX4_debts 34 = .ok (.if_icmp .gt 29, 3) := by decide +kernel
theorem dX4_debts_37 : decode cX4_debts 37 = .ok (.aload_n 0, 1) := by decide +kernel
theorem dX4_debts_38 : decode cX4_debts 38 = .ok (.getfield 18, 3) := by decide +kernel
theorem dX4_debts_41 : decode cX4_debts 41 = .ok (.iload_n 1, 1) := by decide +kernel
theorem dX4_debts_42 : decode cX4_debts 42 = .ok (.iload_n 2, 1) := by decide +kernel
theorem dX4_debts_43 : decode cX4_debts 43 = .ok (.iload 4, 2) := by decide +kernel
theorem dX4_debts_45 : decode cX4_debts 45 = .ok (.invokevirtual 106, 3) := by decide +kernel
theorem dX4_debts_48 : decode cX4_debts 48 = .ok (.iload_n 3, 1) := by decide +kernel
theorem dX4_debts_49 : decode cX4_debts 49 = .ok (.aload_n 0, 1) := by decide +kernel
theorem dX4_debts_50 : decode cX4_debts 50 = .ok (.iload 4, 2) := by decide +kernel
theorem dX4_debts_52 : decode cX4_debts 52 = .ok (.invokevirtual 156, 3) := by decide +kernel
theorem dX4_debts_55 : decode cX4_debts 55 = .ok (.ior, 1) := by decide +kernel
theorem dX4_debts_56 : decode cX4_debts 56 = .ok (.istore_n 3, 1) := by decide +kernel
theorem dX4_debts_57 : decode cX4_debts 57 = .ok (.iinc 4 1, 3) := by decide +kernel
theorem dX4_debts_60 : decode cX4_debts 60 = .ok (.goto (-30), 3) := by decide +kernel
theorem dX4_debts_63 : decode cX4_debts 63 = .ok (.iload_n 3, 1) := by decide +kernel
theorem dX4_debts_64 : decode cX4_debts 64 = .ok (.ireturn, 1) := by decide +kernel
set_option maxRecDepth 20000 in
theorem ggX4_bound_X2_hasBoy : GoodIn wsX4_bound wsX2_hasBoy := goodIn_r _ [7, 8, 66, 67, 68, 69, 70] (by decide +kernel) (by decide +kernel)
set_option maxRecDepth 20000 in
theorem gX4_bound_X2_hasBoy : GoodIn wsX4_bound (wsV RX4 79 RX2 yX2_hasBoy wsX2_hasBoy) := goodIn_app (goodIn_of _ (by decide +kernel)) ggX4_bound_X2_hasBoy
set_option maxRecDepth 20000 in
theorem ggX4_bound_X2_takeOver : GoodIn wsX4_bound wsX2_takeOver := goodIn_r _ [12, 13, 14, 15, 16, 17, 18, 19, 20, 8, 66, 67, 68, 69, 70] (by decide +kernel) (by decide +kernel)
set_option maxRecDepth 20000 in
theorem gX4_bound_X2_takeOver : GoodIn wsX4_bound (wsV RX4 142 RX2 yX2_takeOver wsX2_takeOver) := goodIn_app (goodIn_of _ (by decide +kernel)) ggX4_bound_X2_takeOver
set_option maxRecDepth 20000 in
theorem ggX4_bound_X4_bitIfTrialFits : GoodIn wsX4_bound wsX4_bitIfTrialFits := goodIn_r _ [25, 26, 27, 2, 28, 29, 30, 31, 32, 33, 34, 35, 36, 37, 38, 39, 6, 40, 19, 41, 42, 43, 44, 45, 46, 47, 48, 20, 49, 50, 51, 52, 13, 53, 54, 55, 56, 18, 57, 24, 58, 59, 60, 61, 62, 63, 64, 65, 71, 72, 73, 74, 66, 67, 68, 69, 70] (by decide +kernel) (by decide +kernel)
set_option maxRecDepth 20000 in
theorem gX4_bound_X4_bitIfTrialFits : GoodIn wsX4_bound (wsV RX4 156 RX4 yX4_bitIfTrialFits wsX4_bitIfTrialFits) := goodIn_app (goodIn_of _ (by decide +kernel)) ggX4_bound_X4_bitIfTrialFits
theorem dX4_bound_0 : decode cX4_bound 0 = .ok (.aload_n 0, 1) := by decide +kernel
theorem dX4_bound_1 : decode cX4_bound 1 = .ok (.getfield 12, 3) := by decide +kernel
theorem dX4_bound_4 : decode cX4_bound 4 = .ok (.iload_n 1, 1) := by decide +kernel
theorem dX4_bound_5 : decode cX4_bound 5 = .ok (.invokevirtual 79, 3) := by decide +kernel
theorem dX4_bound_8 : decode cX4_bound 8 = .ok (.ifCond .ne 5, 3) := by decide +kernel
theorem dX4_bound_11 : decode cX4_bound 11 = .ok (.iconst (-1), 1) := by decide +kernel
theorem dX4_bound_12 : decode cX4_bound 12 = .ok (.ireturn, 1) := by decide +kernel
theorem dX4_bound_13 : decode cX4_bound 13 = .ok (.aload_n 0, 1) := by decide +kernel
theorem dX4_bound_14 : decode cX4_bound 14 = .ok (.getfield 18, 3) := by decide +kernel
theorem dX4_bound_17 : decode cX4_bound 17 = .ok (.aload_n 0, 1) := by decide +kernel
theorem dX4_bound_18 : decode cX4_bound 18 = .ok (.getfield 12, 3) := by decide +kernel
theorem dX4_bound_21 : decode cX4_bound 21 = .ok (.invokevirtual 142, 3) := by decide +kernel
theorem dX4_bound_24 : decode cX4_bound 24 = .ok (.iconst 0, 1) := by decide +kernel
theorem dX4_bound_25 : decode cX4_bound 25 = .ok (.istore_n 2, 1) := by decide +kernel
theorem dX4_bound_26 : decode cX4_bound 26 = .ok (.iconst 0, 1) := by decide +kernel
theorem dX4_bound_27 : decode cX4_bound 27 = .ok (.istore_n 3, 1) := by decide +kernel
theorem dX4_bound_28 : decode cX4_bound 28 = .ok (.iload_n 3, 1) := by decide +kernel
theorem dX4_bound_29 : decode cX4_bound 29 = .ok (.aload_n 0, 1) := by decide +kernel
theorem dX4_bound_30 : decode cX4_bound 30 = .ok (.getfield 12, 3) := by decide +kernel
theorem dX4_bound_33 : decode cX4_bound 33 = .ok (.getfield 119, 3) := by decide +kernel
theorem dX4_bound_36 : decode cX4_bound 36 = .ok (.if_icmp .ge 27, 3) := by decide +kernel
theorem dX4_bound_39 : decode cX4_bound 39 = .ok (.aload_n 0, 1) := by decide +kernel
theorem dX4_bound_40 : decode cX4_bound 40 = .ok (.getfield 18, 3) := by decide +kernel
theorem dX4_bound_43 : decode cX4_bound 43 = .ok (.getfield 86, 3) := by decide +kernel
theorem dX4_bound_46 : decode cX4_bound 46 = .ok (.iload_n 1, 1) := by decide +kernel
theorem dX4_bound_47 : decode cX4_bound 47 = .ok (.iload_n 3, 1) := by decide +kernel
theorem dX4_bound_48 : decode cX4_bound 48 = .ok (.iastore, 1) := by decide +kernel
theorem dX4_bound_49 : decode cX4_bound 49 = .ok (.iload_n 2, 1) := by decide +kernel
theorem dX4_bound_50 : decode cX4_bound 50 = .ok (.aload_n 0, 1) := by decide +kernel
theorem dX4_bound_51 : decode cX4_bound 51 = .ok (.iload_n 3, 1) := by decide +kernel
theorem dX4_bound_52 : decode cX4_bound 52 = .ok (.invokevirtual 156, 3) := by decide +kernel
theorem dX4_bound_55 : decode cX4_bound 55 = .ok (.ior, 1) := by decide +kernel
theorem dX4_bound_56 : decode cX4_bound 56 = .ok (.istore_n 2, 1) := by decide +kernel
theorem dX4_bound_57 : decode cX4_bound 57 = .ok (.iinc 3 1, 3) := by decide +kernel
theorem dX4_bound_60 : decode cX4_bound 60 = .ok (.goto (-32), 3) := by decide +kernel
theorem dX4_bound_63 : decode cX4_bound 63 = .ok (.iload_n 2, 1) := by decide +kernel
theorem dX4_bound_64 : decode cX4_bound 64 = .ok (.ireturn, 1) := by decide +kernel
set_option maxRecDepth 20000 in
theorem ggX4_kinds_X2_hasBoy : GoodIn wsX4_kinds wsX2_hasBoy := goodIn_r _ [7, 8, 66, 67, 68, 69, 70] (by decide +kernel) (by decide +kernel)
set_option maxRecDepth 20000 in
theorem gX4_kinds_X2_hasBoy : GoodIn wsX4_kinds (wsV RX4 79 RX2 yX2_hasBoy wsX2_hasBoy) := goodIn_app (goodIn_of _ (by decide +kernel)) ggX4_kinds_X2_hasBoy
set_option maxRecDepth 20000 in
theorem ggX4_kinds_X2_takeOver : GoodIn wsX4_kinds wsX2_takeOver := goodIn_r _ [12, 13, 14, 15, 16, 17, 18, 19, 20, 8, 66, 67, 68, 69, 70] (by decide +kernel) (by decide +kernel)
set_option maxRecDepth 20000 in
theorem gX4_kinds_X2_takeOver : GoodIn wsX4_kinds (wsV RX4 142 RX2 yX2_takeOver wsX2_takeOver) := goodIn_app (goodIn_of _ (by decide +kernel)) ggX4_kinds_X2_takeOver
set_option maxRecDepth 20000 in
theorem ggX4_kinds_X4_bitIfTrialFits : GoodIn wsX4_kinds wsX4_bitIfTrialFits := goodIn_r _ [25, 26, 27, 2, 28, 29, 30, 31, 32, 33, 34, 35, 36, 37, 38, 39, 6, 40, 19, 41, 42, 43, 44, 45, 46, 47, 48, 20, 49, 50, 51, 52, 13, 53, 54, 55, 56, 18, 57, 24, 58, 59, 60, 61, 62, 63, 64, 65, 71, 72, 73, 74, 66, 67, 68, 69, 70] (by decide +kernel) (by decide +kernel)
set_option maxRecDepth 20000 in
theorem gX4_kinds_X4_bitIfTrialFits : GoodIn wsX4_kinds (wsV RX4 156 RX4 yX4_bitIfTrialFits wsX4_bitIfTrialFits) := goodIn_app (goodIn_of _ (by decide +kernel)) ggX4_kinds_X4_bitIfTrialFits
theorem dX4_kinds_0 : decode cX4_kinds 0 = .ok (.aload_n 0, 1) := by decide +kernel
theorem dX4_kinds_1 : decode cX4_kinds 1 = .ok (.getfield 12, 3) := by decide +kernel
theorem dX4_kinds_4 : decode cX4_kinds 4 = .ok (.iload_n 1, 1) := by decide +kernel
theorem dX4_kinds_5 : decode cX4_kinds 5 = .ok (.invokevirtual 79, 3) := by decide +kernel
theorem dX4_kinds_8 : decode cX4_kinds 8 = .ok (.ifCond .ne 5, 3) := by decide +kernel
theorem dX4_kinds_11 : decode cX4_kinds 11 = .ok (.iconst (-1), 1) := by decide +kernel
theorem dX4_kinds_12 : decode cX4_kinds 12 = .ok (.ireturn, 1) := by decide +kernel
theorem dX4_kinds_13 : decode cX4_kinds 13 = .ok (.aload_n 0, 1) := by decide +kernel
theorem dX4_kinds_14 : decode cX4_kinds 14 = .ok (.getfield 18, 3) := by decide +kernel
theorem dX4_kinds_17 : decode cX4_kinds 17 = .ok (.aload_n 0, 1) := by decide +kernel
theorem dX4_kinds_18 : decode cX4_kinds 18 = .ok (.getfield 12, 3) := by decide +kernel
theorem dX4_kinds_21 : decode cX4_kinds 21 = .ok (.invokevirtual 142, 3) := by decide +kernel
theorem dX4_kinds_24 : decode cX4_kinds 24 = .ok (.iconst 0, 1) := by decide +kernel
theorem dX4_kinds_25 : decode cX4_kinds 25 = .ok (.istore_n 2, 1) := by decide +kernel
theorem dX4_kinds_26 : decode cX4_kinds 26 = .ok (.iconst 0, 1) := by decide +kernel
theorem dX4_kinds_27 : decode cX4_kinds 27 = .ok (.istore_n 3, 1) := by decide +kernel
theorem dX4_kinds_28 : decode cX4_kinds 28 = .ok (.iload_n 3, 1) := by decide +kernel
theorem dX4_kinds_29 : decode cX4_kinds 29 = .ok (.iconst 2, 1) := by decide +kernel
theorem dX4_kinds_30 : decode cX4_kinds 30 = .ok (.if_icmp .gt 27, 3) := by decide +kernel
theorem dX4_kinds_33 : decode cX4_kinds 33 = .ok (.aload_n 0, 1) := by decide +kernel
theorem dX4_kinds_34 : decode cX4_kinds 34 = .ok (.getfield 18, 3) := by decide +kernel
theorem dX4_kinds_37 : decode cX4_kinds 37 = .ok (.getfield 82, 3) := by decide +kernel
theorem dX4_kinds_40 : decode cX4_kinds 40 = .ok (.iload_n 1, 1) := by decide +kernel
theorem dX4_kinds_41 : decode cX4_kinds 41 = .ok (.iload_n 3, 1) := by decide +kernel
theorem dX4_kinds_42 : decode cX4_kinds 42 = .ok (.iastore, 1) := by decide +kernel
theorem dX4_kinds_43 : decode cX4_kinds 43 = .ok (.iload_n 2, 1) := by decide +kernel
theorem dX4_kinds_44 : decode cX4_kinds 44 = .ok (.aload_n 0, 1) := by decide +kernel
theorem dX4_kinds_45 : decode cX4_kinds 45 = .ok (.iload_n 3, 1) := by decide +kernel
theorem dX4_kinds_46 : decode cX4_kinds 46 = .ok (.invokevirtual 156, 3) := by decide +kernel
theorem dX4_kinds_49 : decode cX4_kinds 49 = .ok (.ior, 1) := by decide +kernel
theorem dX4_kinds_50 : decode cX4_kinds 50 = .ok (.istore_n 2, 1) := by decide +kernel
theorem dX4_kinds_51 : decode cX4_kinds 51 = .ok (.iinc 3 1, 3) := by decide +kernel
theorem dX4_kinds_54 : decode cX4_kinds 54 = .ok (.goto (-26), 3) := by decide +kernel
theorem dX4_kinds_57 : decode cX4_kinds 57 = .ok (.iload_n 2, 1) := by decide +kernel
theorem dX4_kinds_58 : decode cX4_kinds 58 = .ok (.ireturn, 1) := by decide +kernel
set_option maxRecDepth 20000 in
theorem ggX4_bitIfTrialFits_X0_isSoIn : GoodIn wsX4_bitIfTrialFits wsX0_isSoIn := goodIn_r _ [8, 9, 10, 11, 12, 13, 14, 15, 16, 17, 18, 19, 20, 21, 22, 23, 24, 25, 26, 27, 28, 29, 30, 31, 32, 33, 34, 35, 36, 37, 38, 39, 40, 48, 49, 50, 51, 52, 53, 54, 55, 56] (by decide +kernel) (by decide +kernel)
set_option maxRecDepth 20000 in
theorem gX4_bitIfTrialFits_X0_isSoIn : GoodIn wsX4_bitIfTrialFits (wsV RX4 159 RX0 yX0_isSoIn wsX0_isSoIn) := goodIn_app (goodIn_of _ (by decide +kernel)) ggX4_bitIfTrialFits_X0_isSoIn
theorem dX4_bitIfTrialFits_0 : decode cX4_bitIfTrialFits 0 = .ok (.iconst 0, 1) := by decide +kernel
theorem dX4_bitIfTrialFits_1 : decode cX4_bitIfTrialFits 1 = .ok (.istore_n 2, 1) := by decide +kernel
theorem dX4_bitIfTrialFits_2 : decode cX4_bitIfTrialFits 2 = .ok (.iload_n 2, 1) := by decide +kernel
theorem dX4_bitIfTrialFits_3 : decode cX4_bitIfTrialFits 3 = .ok (.aload_n 0, 1) := by decide +kernel
theorem dX4_bitIfTrialFits_4 : decode cX4_bitIfTrialFits 4 = .ok (.getfield 27, 3) := by decide +kernel
theorem dX4_bitIfTrialFits_7 : decode cX4_bitIfTrialFits 7 = .ok (.if_icmp .ge 27, 3) := by decide +kernel
theorem dX4_bitIfTrialFits_10 : decode cX4_bitIfTrialFits 10 = .ok (.aload_n 0, 1) := by decide +kernel
theorem dX4_bitIfTrialFits_11 : decode cX4_bitIfTrialFits 11 = .ok (.getfield 23, 3) := by decide +kernel
theorem dX4_bitIfTrialFits_14 : decode cX4_bitIfTrialFits 14 = .ok (.iload_n 2, 1) := by decide +kernel
theorem dX4_bitIfTrialFits_15 : decode cX4_bitIfTrialFits 15 = .ok (.aaload, 1) := by decide +kernel
theorem dX4_bitIfTrialFits_16 : decode cX4_bitIfTrialFits 16 = .ok (.aload_n 0, 1) := by decide +kernel
theorem dX4_bitIfTrialFits_17 : decode cX4_bitIfTrialFits 17 = .ok (.getfield 18, 3) := by decide +kernel
theorem dX4_bitIfTrialFits_20 : decode cX4_bitIfTrialFits 20 = .ok (.invokevirtual 159, 3) := by decide +kernel
theorem dX4_bitIfTrialFits_23 : decode cX4_bitIfTrialFits 23 = .ok (.ifCond .ne 5, 3) := by decide +kernel
theorem dX4_bitIfTrialFits_26 : decode cX4_bitIfTrialFits 26 = .ok (.iconst 0, 1) := by decide +kernel
theorem dX4_bitIfTrialFits_27 : decode cX4_bitIfTrialFits 27 = .ok (.ireturn, 1) := by decide +kernel
theorem dX4_bitIfTrialFits_28 : decode cX4_bitIfTrialFits 28 = .ok (.iinc 2 1, 3) := by decide +kernel
theorem dX4_bitIfTrialFits_31 : decode cX4_bitIfTrialFits 31 = .ok (.goto (-29), 3) := by decide +kernel
theorem dX4_bitIfTrialFits_34 : decode cX4_bitIfTrialFits 34 = .ok (.iconst 1, 1) := by decide +kernel
theorem dX4_bitIfTrialFits_35 : decode cX4_bitIfTrialFits 35 = .ok (.iload_n 1, 1) := by decide +kernel
theorem dX4_bitIfTrialFits_36 : decode cX4_bitIfTrialFits 36 = .ok (.ishl, 1) := by decide +kernel
theorem dX4_bitIfTrialFits_37 : decode cX4_bitIfTrialFits 37 = .ok (.ireturn, 1) := by decide +kernel
set_option maxRecDepth 20000 in
theorem ggX4_odds_X2_hasBoy : GoodIn wsX4_odds wsX2_hasBoy := goodIn_r _ [8, 9, 62, 63, 64, 65, 66] (by decide +kernel) (by decide +kernel)
set_option maxRecDepth 20000 in
theorem gX4_odds_X2_hasBoy : GoodIn wsX4_odds (wsV RX4 79 RX2 yX2_hasBoy wsX2_hasBoy) := goodIn_app (goodIn_of _ (by decide +kernel)) ggX4_odds_X2_hasBoy
set_option maxRecDepth 20000 in
theorem ggX4_odds_X2_hasMaster : GoodIn wsX4_odds wsX2_hasMaster := goodIn_r _ [13, 14, 62, 63, 64, 65, 66] (by decide +kernel) (by decide +kernel)
set_option maxRecDepth 20000 in
theorem gX4_odds_X2_hasMaster : GoodIn wsX4_odds (wsV RX4 92 RX2 yX2_hasMaster wsX2_hasMaster) := goodIn_app (goodIn_of _ (by decide +kernel)) ggX4_odds_X2_hasMaster
set_option maxRecDepth 20000 in
theorem ggX4_odds_X4_isWithin : GoodIn wsX4_odds wsX4_isWithin := goodIn_r _ [18] (by decide +kernel) (by decide +kernel)
set_option maxRecDepth 20000 in
theorem gX4_odds_X4_isWithin : GoodIn wsX4_odds (va_wsS RX4 103 yX4_isWithin wsX4_isWithin) := goodIn_app (goodIn_of _ (by decide +kernel)) ggX4_odds_X4_isWithin
set_option maxRecDepth 20000 in
theorem ggX4_odds_X4_tryPaidBy : GoodIn wsX4_odds wsX4_tryPaidBy := goodIn_r _ [22, 3, 1, 23, 24, 25, 7, 26, 27, 28, 29, 30, 31, 32, 33, 14, 9, 34, 35, 36, 37, 38, 39, 40, 41, 42, 43, 44, 45, 55, 56, 57, 58, 59, 60, 61, 62, 63, 64, 65, 66] (by decide +kernel) (by decide +kernel)
set_option maxRecDepth 20000 in
theorem gX4_odds_X4_tryPaidBy : GoodIn wsX4_odds (wsV RX4 165 RX4 yX4_tryPaidBy wsX4_tryPaidBy) := goodIn_app (goodIn_of _ (by decide +kernel)) ggX4_odds_X4_tryPaidBy
set_option maxRecDepth 20000 in
theorem ggX4_odds_X2_masterBehind : GoodIn wsX4_odds wsX2_masterBehind := goodIn_r _ [49, 33, 50, 51, 52, 7, 53, 54, 35, 36, 37, 14, 38, 39, 40, 41, 27, 62, 63, 64, 65, 66] (by decide +kernel) (by decide +kernel)
set_option maxRecDepth 20000 in
theorem gX4_odds_X2_masterBehind : GoodIn wsX4_odds (wsV RX4 113 RX2 yX2_masterBehind wsX2_masterBehind) := goodIn_app (goodIn_of _ (by decide +kernel)) ggX4_odds_X2_masterBehind
theorem dX4_odds_0 : decode cX4_odds 0 = .ok (.aload_n 0, 1) := by decide +kernel
theorem dX4_odds_1 : decode cX4_odds 1 = .ok (.getfield 12, 3) := by decide +kernel
theorem dX4_odds_4 : decode cX4_odds 4 = .ok (.iload_n 1, 1) := by decide +kernel
theorem dX4_odds_5 : decode cX4_odds 5 = .ok (.invokevirtual 79, 3) := by decide +kernel
theorem dX4_odds_8 : decode cX4_odds 8 = .ok (.ifCond .eq 14, 3) := by decide +kernel
theorem dX4_odds_11 : decode cX4_odds 11 = .ok (.aload_n 0, 1) := by decide +kernel
theorem dX4_odds_12 : decode cX4_odds 12 = .ok (.getfield 12, 3) := by decide +kernel
theorem dX4_odds_15 : decode cX4_odds 15 = .ok (.iload_n 2, 1) := by decide +kernel
theorem dX4_odds_16 : decode cX4_odds 16 = .ok (.invokevirtual 92, 3) := by decide +kernel
theorem dX4_odds_19 : decode cX4_odds 19 = .ok (.ifCond .ne 7, 3) := by decide +kernel
theorem dX4_odds_22 : decode cX4_odds 22 = .ok (.ldc2_w 163, 3) := by decide +kernel
theorem dX4_odds_25 : decode cX4_odds 25 = .ok (.lreturn, 1) := by decide +kernel
theorem dX4_odds_26 : decode cX4_odds 26 = .ok (.iload_n 3, 1) := by decide +kernel
theorem dX4_odds_27 : decode cX4_odds 27 = .ok (.bipush 20, 2) := by decide +kernel
theorem dX4_odds_29 : decode cX4_odds 29 = .ok (.invokestatic 103, 3) := by decide +kernel
theorem dX4_odds_32 : decode cX4_odds 32 = .ok (.ifCond .eq 12, 3) := by decide +kernel
theorem dX4_odds_35 : decode cX4_odds 35 = .ok (.iload 4, 2) := by decide +kernel
theorem dX4_odds_37 : decode cX4_odds 37 = .ok (.iconst 1, 1) := by decide +kernel
theorem dX4_odds_38 : decode cX4_odds 38 = .ok (.invokestatic 103, 3) := by decide +kernel
theorem dX4_odds_41 : decode cX4_odds 41 = .ok (.ifCond .ne 7, 3) := by decide +kernel
theorem dX4_odds_44 : decode cX4_odds 44 = .ok (.ldc2_w 163, 3) := by decide +kernel
theorem dX4_odds_47 : decode cX4_odds 47 = .ok (.lreturn, 1) := by decide +kernel
theorem dX4_odds_48 : decode cX4_odds 48 = .ok (.iconst 1, 1) := by decide +kernel
theorem dX4_odds_49 : decode cX4_odds 49 = .ok (.aload_n 0, 1) := by decide +kernel
theorem dX4_odds_50 : decode cX4_odds 50 = .ok (.getfield 12, 3) := by decide +kernel
theorem dX4_odds_53 : decode cX4_odds 53 = .ok (.getfield 119, 3) := by decide +kernel
theorem dX4_odds_56 : decode cX4_odds 56 = .ok (.ishl, 1) := by decide +kernel
theorem dX4_odds_57 : decode cX4_odds 57 = .ok (.istore 5, 2) := by decide +kernel
theorem dX4_odds_59 : decode cX4_odds 59 = .ok (.iconst 0, 1) := by decide +kernel
theorem dX4_odds_60 : decode cX4_odds 60 = .ok (.istore 6, 2) := by decide +kernel
theorem dX4_odds_62 : decode cX4_odds 62 = .ok (.iconst 0, 1) := by decide +kernel
theorem dX4_odds_63 : decode cX4_odds 63 = .ok (.istore 7, 2) := by decide +kernel
theorem dX4_odds_65 : decode cX4_odds 65 = .ok (.iload 7, 2) := by decide +kernel
theorem dX4_odds_67 : decode cX4_odds 67 = .ok (.iload 5, 2) := by decide +kernel
theorem dX4_odds_69 : decode cX4_odds 69 = .ok (.if_icmp .ge 31, 3) := by decide +kernel
theorem dX4_odds_72 : decode cX4_odds 72 = .ok (.aload_n 0, 1) := by decide +kernel
theorem dX4_odds_73 : decode cX4_odds 73 = .ok (.iload 7, 2) := by decide +kernel
theorem dX4_odds_75 : decode cX4_odds 75 = .ok (.invokevirtual 165, 3) := by decide +kernel
theorem dX4_odds_78 : decode cX4_odds 78 = .ok (.aload_n 0, 1) := by decide +kernel
theorem dX4_odds_79 : decode cX4_odds 79 = .ok (.getfield 18, 3) := by decide +kernel
theorem dX4_odds_82 : decode cX4_odds 82 = .ok (.iload_n 1, 1) := by decide +kernel
theorem dX4_odds_83 : decode cX4_odds 83 = .ok (.iload_n 3, 1) := by decide +kernel
theorem dX4_odds_84 : decode cX4_odds 84 = .ok (.invokevirtual 113, 3) := by decide +kernel
theorem dX4_odds_87 : decode cX4_odds 87 = .ok (.iload_n 2, 1) := by decide +kernel
theorem dX4_odds_88 : decode cX4_odds 88 = .ok (.if_icmp .ne 6, 3) := by decide +kernel
theorem dX4_odds_91 : decode cX4_odds 91 = .ok (.iinc 6 1, 3) := by decide +kernel
theorem dX4_odds_94 : decode cX4_odds 94 = .ok (.iinc 7 1, 3) := by decide +kernel
theorem dX4_odds_97 : decode cX4_odds 97 = .ok (.goto (-32), 3) := by decide +kernel
theorem dX4_odds_100 : decode cX4_odds 100 = .ok (.iload 5, 2) := by decide +kernel
theorem dX4_odds_102 : decode cX4_odds 102 = .ok (.iconst 1, 1) := by decide +kernel
theorem dX4_odds_103 : decode cX4_odds 103 = .ok (.if_icmp .le 25, 3) := by decide +kernel
theorem dX4_odds_106 : decode cX4_odds 106 = .ok (.iload 6, 2) := by decide +kernel
theorem dX4_odds_108 : decode cX4_odds 108 = .ok (.iconst 2, 1) := by decide +kernel
theorem dX4_odds_109 : decode cX4_odds 109 = .ok (.irem, 1) := by decide +kernel
theorem dX4_odds_110 : decode cX4_odds 110 = .ok (.ifCond .ne 18, 3) := by decide +kernel
theorem dX4_odds_113 : decode cX4_odds 113 = .ok (.iload 6, 2) := by decide +kernel
theorem dX4_odds_115 : decode cX4_odds 115 = .ok (.iconst 2, 1) := by decide +kernel
theorem dX4_odds_116 : decode cX4_odds 116 = .ok (.idiv, 1) := by decide +kernel
theorem dX4_odds_117 : decode cX4_odds 117 = .ok (.istore 6, 2) := by decide +kernel
theorem dX4_odds_119 : decode cX4_odds 119 = .ok (.iload 5, 2) := by decide +kernel
theorem dX4_odds_121 : decode cX4_odds 121 = .ok (.iconst 2, 1) := by decide +kernel
theorem dX4_odds_122 : decode cX4_odds 122 = .ok (.idiv, 1) := by decide +kernel
theorem dX4_odds_123 : decode cX4_odds 123 = .ok (.istore 5, 2) := by decide +kernel
theorem dX4_odds_125 : decode cX4_odds 125 = .ok (.goto (-25), 3) := by decide +kernel
theorem dX4_odds_128 : decode cX4_odds 128 = .ok (.iload 4, 2) := by decide +kernel
theorem dX4_odds_130 : decode cX4_odds 130 = .ok (.ifCond .ne 9, 3) := by decide +kernel
theorem dX4_odds_133 : decode cX4_odds 133 = .ok (.iload 6, 2) := by decide +kernel
theorem dX4_odds_135 : decode cX4_odds 135 = .ok (.i2l, 1) := by decide +kernel
theorem dX4_odds_136 : decode cX4_odds 136 = .ok (.goto 6, 3) := by decide +kernel
theorem dX4_odds_139 : decode cX4_odds 139 = .ok (.iload 5, 2) := by decide +kernel
theorem dX4_odds_141 : decode cX4_odds 141 = .ok (.i2l, 1) := by decide +kernel
theorem dX4_odds_142 : decode cX4_odds 142 = .ok (.lreturn, 1) := by decide +kernel
set_option maxRecDepth 20000 in
theorem ggX4_tryPaidBy_X2_takeOver : GoodIn wsX4_tryPaidBy wsX2_takeOver := goodIn_r _ [7, 8, 9, 10, 11, 12, 13, 14, 15, 16, 36, 37, 38, 39, 40] (by decide +kernel) (by decide +kernel)
set_option maxRecDepth 20000 in
theorem gX4_tryPaidBy_X2_takeOver : GoodIn wsX4_tryPaidBy (wsV RX4 142 RX2 yX2_takeOver wsX2_takeOver) := goodIn_app (goodIn_of _ (by decide +kernel)) ggX4_tryPaidBy_X2_takeOver
set_option maxRecDepth 20000 in
theorem ggX4_tryPaidBy_X2_nextOf : GoodIn wsX4_tryPaidBy wsX2_nextOf := goodIn_r _ [20, 15, 21, 22, 23, 6, 24, 8, 36, 37, 38, 39, 40] (by decide +kernel) (by decide +kernel)
set_option maxRecDepth 20000 in
theorem gX4_tryPaidBy_X2_nextOf : GoodIn wsX4_tryPaidBy (wsV RX4 110 RX2 yX2_nextOf wsX2_nextOf) := goodIn_app (goodIn_of _ (by decide +kernel)) ggX4_tryPaidBy_X2_nextOf
set_option maxRecDepth 20000 in
theorem ggX4_tryPaidBy_X2_setDebt : GoodIn wsX4_tryPaidBy wsX2_setDebt := goodIn_r _ [28, 8, 36, 37, 38, 39, 40] (by decide +kernel) (by decide +kernel)
set_option maxRecDepth 20000 in
theorem gX4_tryPaidBy_X2_setDebt : GoodIn wsX4_tryPaidBy (wsV RX4 106 RX2 yX2_setDebt wsX2_setDebt) := goodIn_app (goodIn_of _ (by decide +kernel)) ggX4_tryPaidBy_X2_setDebt
theorem dX4_tryPaidBy_0 : decode cX4_tryPaidBy 0 = .ok (.aload_n 0, 1) := by decide +kernel
theorem dX4_tryPaidBy_1 : decode cX4_tryPaidBy 1 = .ok (.getfield 18, 3) := by decide +kernel
theorem dX4_tryPaidBy_4 : decode cX4_tryPaidBy 4 = .ok (.aload_n 0, 1) := by decide +kernel
theorem dX4_tryPaidBy_5 : decode cX4_tryPaidBy 5 = .ok (.getfield 12, 3) := by decide +kernel
theorem dX4_tryPaidBy_8 : decode cX4_tryPaidBy 8 = .ok (.invokevirtual 142, 3) := by decide +kernel
theorem dX4_tryPaidBy_11 : decode cX4_tryPaidBy 11 = .ok (.iconst 0, 1) := by decide +kernel
theorem dX4_tryPaidBy_12 : decode cX4_tryPaidBy 12 = .ok (.istore_n 2, 1) := by decide +kernel
theorem dX4_tryPaidBy_13 : decode cX4_tryPaidBy 13 = .ok (.iload_n 2, 1) := by decide +kernel
theorem dX4_tryPaidBy_14 : decode cX4_tryPaidBy 14 = .ok (.aload_n 0, 1) := by decide +kernel
theorem dX4_tryPaidBy_15 : decode cX4_tryPaidBy 15 = .ok (.getfield 12, 3) := by decide +kernel
theorem dX4_tryPaidBy_18 : decode cX4_tryPaidBy 18 = .ok (.getfield 119, 3) := by decide +kernel
theorem dX4_tryPaidBy_21 : decode cX4_tryPaidBy 21 = .ok (.if_icmp .ge 35, 3) := by decide +kernel
theorem dX4_tryPaidBy_24 : decode cX4_tryPaidBy 24 = .ok (.iload_n 1, 1) := by decide +kernel
theorem dX4_tryPaidBy_25 : decode cX4_tryPaidBy 25 = .ok (.iload_n 2, 1) := by decide +kernel
theorem dX4_tryPaidBy_26 : decode cX4_tryPaidBy 26 = .ok (.ishr, 1) := by decide +kernel
theorem dX4_tryPaidBy_27 : decode cX4_tryPaidBy 27 = .ok (.iconst 1, 1) := by decide +kernel
theorem dX4_tryPaidBy_28 : decode cX4_tryPaidBy 28 = .ok (.iand, 1) := by decide +kernel
theorem dX4_tryPaidBy_29 : decode cX4_tryPaidBy 29 = .ok (.iconst 1, 1) := by decide +kernel
theorem dX4_tryPaidBy_30 : decode cX4_tryPaidBy 30 = .ok (.if_icmp .ne 20, 3) := by decide +kernel
theorem dX4_tryPaidBy_33 : decode cX4_tryPaidBy 33 = .ok (.aload_n 0, 1) := by decide +kernel
theorem dX4_tryPaidBy_34 : decode cX4_tryPaidBy 34 = .ok (.getfield 18, 3) := by decide +kernel
theorem dX4_tryPaidBy_37 : decode cX4_tryPaidBy 37 = .ok (.iload_n 2, 1) := by decide +kernel
theorem dX4_tryPaidBy_38 : decode cX4_tryPaidBy 38 = .ok (.aload_n 0, 1) := by decide +kernel
theorem dX4_tryPaidBy_39 : decode cX4_tryPaidBy 39 = .ok (.getfield 12, 3) := by decide +kernel
theorem dX4_tryPaidBy_42 : decode cX4_tryPaidBy 42 = .ok (.iload_n 2, 1) := by decide +kernel
theorem dX4_tryPaidBy_43 : decode cX4_tryPaidBy 43 = .ok (.invokevirtual 110, 3) := by decide +kernel
theorem dX4_tryPaidBy_46 : decode cX4_tryPaidBy 46 = .ok (.iconst 0, 1) := by decide +kernel
theorem dX4_tryPaidBy_47 : decode cX4_tryPaidBy 47 = .ok (.invokevirtual 106, 3) := by decide +kernel
theorem dX4_tryPaidBy_50 : decode cX4_tryPaidBy 50 = .ok (.iinc 2 1, 3) := by decide +kernel
theorem dX4_tryPaidBy_53 : decode cX4_tryPaidBy 53 = .ok (.goto (-40), 3) := by decide +kernel
theorem dX4_tryPaidBy_56 : decode cX4_tryPaidBy 56 = .ok (.return_, 1) := by decide +kernel
set_option maxRecDepth 20000 in
theorem ggX4_sheet_X4_isSheet : GoodIn wsX4_sheet wsX4_isSheet := goodIn_r _ [6] (by decide +kernel) (by decide +kernel)
set_option maxRecDepth 20000 in
theorem gX4_sheet_X4_isSheet : GoodIn wsX4_sheet (va_wsS RX4 45 yX4_isSheet wsX4_isSheet) := goodIn_app (goodIn_of _ (by decide +kernel)) ggX4_sheet_X4_isSheet
set_option maxRecDepth 20000 in
theorem ggX4_sheet_X4_refused : GoodIn wsX4_sheet wsX4_refused := goodIn_r _ [10, 1, 26, 27, 28, 29, 30, 31, 32] (by decide +kernel) (by decide +kernel)
set_option maxRecDepth 20000 in
theorem gX4_sheet_X4_refused : GoodIn wsX4_sheet (wsV RX4 49 RX4 yX4_refused wsX4_refused) := goodIn_app (goodIn_of _ (by decide +kernel)) ggX4_sheet_X4_refused
set_option maxRecDepth 20000 in
theorem ggX4_sheet_X4_isLane : GoodIn wsX4_sheet wsX4_isLane := goodIn_r _ [13] (by decide +kernel) (by decide +kernel)
set_option maxRecDepth 20000 in
theorem gX4_sheet_X4_isLane : GoodIn wsX4_sheet (va_wsS RX4 53 yX4_isLane wsX4_isLane) := goodIn_app (goodIn_of _ (by decide +kernel)) ggX4_sheet_X4_isLane
set_option maxRecDepth 20000 in
theorem ggX4_sheet_X4_faulted : GoodIn wsX4_sheet wsX4_faulted := goodIn_r _ [17, 1, 26, 27, 28, 29, 30, 31, 32] (by decide +kernel) (by decide +kernel)
set_option maxRecDepth 20000 in
theorem gX4_sheet_X4_faulted : GoodIn wsX4_sheet (wsV RX4 60 RX4 yX4_faulted wsX4_faulted) := goodIn_app (goodIn_of _ (by decide +kernel)) ggX4_sheet_X4_faulted
set_option maxRecDepth 20000 in
theorem ggX4_sheet_X1_renew : GoodIn wsX4_sheet wsX1_renew := goodIn_r _ [22, 23, 24, 25, 33, 34, 35] (by decide +kernel) (by decide +kernel)
set_option maxRecDepth 20000 in
theorem gX4_sheet_X1_renew : GoodIn wsX4_sheet (wsV RX4 169 RX1 yX1_renew wsX1_renew) := goodIn_app (goodIn_of _ (by decide +kernel)) ggX4_sheet_X1_renew
theorem dX4_sheet_0 : decode cX4_sheet 0 = .ok (.iload_n 1, 1) := by decide +kernel
theorem dX4_sheet_1 : decode cX4_sheet 1 = .ok (.invokestatic 45, 3) := by decide +kernel
theorem dX4_sheet_4 : decode cX4_sheet 4 = .ok (.ifCond .ne 9, 3) := by decide +kernel
theorem dX4_sheet_7 : decode cX4_sheet 7 = .ok (.aload_n 0, 1) := by decide +kernel
theorem dX4_sheet_8 : decode cX4_sheet 8 = .ok (.iconst (-1), 1) := by decide +kernel
theorem dX4_sheet_9 : decode cX4_sheet 9 = .ok (.invokevirtual 49, 3) := by decide +kernel
theorem dX4_sheet_12 : decode cX4_sheet 12 = .ok (.ireturn, 1) := by decide +kernel
theorem dX4_sheet_13 : decode cX4_sheet 13 = .ok (.iload_n 2, 1) := by decide +kernel
theorem dX4_sheet_14 : decode cX4_sheet 14 = .ok (.invokestatic 53, 3) := by decide +kernel
theorem dX4_sheet_17 : decode cX4_sheet 17 = .ok (.ifCond .eq 9, 3) := by decide +kernel
theorem dX4_sheet_20 : decode cX4_sheet 20 = .ok (.iload_n 3, 1) := by decide +kernel
theorem dX4_sheet_21 : decode cX4_sheet 21 = .ok (.bipush 60, 2) := by decide +kernel
theorem dX4_sheet_23 : decode cX4_sheet 23 = .ok (.if_icmp .le 10, 3) := by decide +kernel
theorem dX4_sheet_26 : decode cX4_sheet 26 = .ok (.aload_n 0, 1) := by decide +kernel
theorem dX4_sheet_27 : decode cX4_sheet 27 = .ok (.bipush (-2), 2) := by decide +kernel
theorem dX4_sheet_29 : decode cX4_sheet 29 = .ok (.invokevirtual 49, 3) := by decide +kernel
theorem dX4_sheet_32 : decode cX4_sheet 32 = .ok (.ireturn, 1) := by decide +kernel
theorem dX4_sheet_33 : decode cX4_sheet 33 = .ok (.iload_n 3, 1) := by decide +kernel
theorem dX4_sheet_34 : decode cX4_sheet 34 = .ok (.ifCond .ge 9, 3) := by decide +kernel
theorem dX4_sheet_37 : decode cX4_sheet 37 = .ok (.aload_n 0, 1) := by decide +kernel
theorem dX4_sheet_38 : decode cX4_sheet 38 = .ok (.iconst 4, 1) := by decide +kernel
theorem dX4_sheet_39 : decode cX4_sheet 39 = .ok (.invokevirtual 60, 3) := by decide +kernel
theorem dX4_sheet_42 : decode cX4_sheet 42 = .ok (.ireturn, 1) := by decide +kernel
theorem dX4_sheet_43 : decode cX4_sheet 43 = .ok (.aload_n 0, 1) := by decide +kernel
theorem dX4_sheet_44 : decode cX4_sheet 44 = .ok (.iconst 0, 1) := by decide +kernel
theorem dX4_sheet_45 : decode cX4_sheet 45 = .ok (.putfield 40, 3) := by decide +kernel
theorem dX4_sheet_48 : decode cX4_sheet 48 = .ok (.aload_n 0, 1) := by decide +kernel
theorem dX4_sheet_49 : decode cX4_sheet 49 = .ok (.getfield 33, 3) := by decide +kernel
theorem dX4_sheet_52 : decode cX4_sheet 52 = .ok (.iload_n 1, 1) := by decide +kernel
theorem dX4_sheet_53 : decode cX4_sheet 53 = .ok (.aaload, 1) := by decide +kernel
theorem dX4_sheet_54 : decode cX4_sheet 54 = .ok (.iload_n 2, 1) := by decide +kernel
theorem dX4_sheet_55 : decode cX4_sheet 55 = .ok (.iload_n 3, 1) := by decide +kernel
theorem dX4_sheet_56 : decode cX4_sheet 56 = .ok (.invokevirtual 169, 3) := by decide +kernel
theorem dX4_sheet_59 : decode cX4_sheet 59 = .ok (.iconst 1, 1) := by decide +kernel
theorem dX4_sheet_60 : decode cX4_sheet 60 = .ok (.ireturn, 1) := by decide +kernel
set_option maxRecDepth 20000 in
theorem ggX4_lose_X4_isSheet : GoodIn wsX4_lose wsX4_isSheet := goodIn_r _ [5] (by decide +kernel) (by decide +kernel)
set_option maxRecDepth 20000 in
theorem gX4_lose_X4_isSheet : GoodIn wsX4_lose (va_wsS RX4 45 yX4_isSheet wsX4_isSheet) := goodIn_app (goodIn_of _ (by decide +kernel)) ggX4_lose_X4_isSheet
set_option maxRecDepth 20000 in
theorem ggX4_lose_X1_hasNothing : GoodIn wsX4_lose wsX1_hasNothing := goodIn_r _ [10, 11, 25, 26, 27] (by decide +kernel) (by decide +kernel)
set_option maxRecDepth 20000 in
theorem gX4_lose_X1_hasNothing : GoodIn wsX4_lose (wsV RX4 173 RX1 yX1_hasNothing wsX1_hasNothing) := goodIn_app (goodIn_of _ (by decide +kernel)) ggX4_lose_X1_hasNothing
set_option maxRecDepth 20000 in
theorem ggX4_lose_X1_renew : GoodIn wsX4_lose wsX1_renew := goodIn_r _ [15, 11, 16, 17, 25, 26, 27] (by decide +kernel) (by decide +kernel)
set_option maxRecDepth 20000 in
theorem gX4_lose_X1_renew : GoodIn wsX4_lose (wsV RX4 169 RX1 yX1_renew wsX1_renew) := goodIn_app (goodIn_of _ (by decide +kernel)) ggX4_lose_X1_renew
theorem dX4_lose_0 : decode cX4_lose 0 = .ok (.iload_n 1, 1) := by decide +kernel
theorem dX4_lose_1 : decode cX4_lose 1 = .ok (.invokestatic 45, 3) := by decide +kernel
theorem dX4_lose_4 : decode cX4_lose 4 = .ok (.ifCond .ne 5, 3) := by decide +kernel
theorem dX4_lose_7 : decode cX4_lose 7 = .ok (.iconst (-1), 1) := by decide +kernel
theorem dX4_lose_8 : decode cX4_lose 8 = .ok (.ireturn, 1) := by decide +kernel
theorem dX4_lose_9 : decode cX4_lose 9 = .ok (.aload_n 0, 1) := by decide +kernel
theorem dX4_lose_10 : decode cX4_lose 10 = .ok (.getfield 33, 3) := by decide +kernel
theorem dX4_lose_13 : decode cX4_lose 13 = .ok (.iload_n 1, 1) := by decide +kernel
theorem dX4_lose_14 : decode cX4_lose 14 = .ok (.aaload, 1) := by decide +kernel
theorem dX4_lose_15 : decode cX4_lose 15 = .ok (.invokevirtual 173, 3) := by decide +kernel
theorem dX4_lose_18 : decode cX4_lose 18 = .ok (.ifCond .eq 5, 3) := by decide +kernel
theorem dX4_lose_21 : decode cX4_lose 21 = .ok (.iconst 0, 1) := by decide +kernel
theorem dX4_lose_22 : decode cX4_lose 22 = .ok (.ireturn, 1) := by decide +kernel
theorem dX4_lose_23 : decode cX4_lose 23 = .ok (.aload_n 0, 1) := by decide +kernel
theorem dX4_lose_24 : decode cX4_lose 24 = .ok (.getfield 33, 3) := by decide +kernel
theorem dX4_lose_27 : decode cX4_lose 27 = .ok (.iload_n 1, 1) := by decide +kernel
theorem dX4_lose_28 : decode cX4_lose 28 = .ok (.aaload, 1) := by decide +kernel
theorem dX4_lose_29 : decode cX4_lose 29 = .ok (.iconst (-1), 1) := by decide +kernel
theorem dX4_lose_30 : decode cX4_lose 30 = .ok (.iconst 0, 1) := by decide +kernel
theorem dX4_lose_31 : decode cX4_lose 31 = .ok (.invokevirtual 169, 3) := by decide +kernel
theorem dX4_lose_34 : decode cX4_lose 34 = .ok (.iconst 1, 1) := by decide +kernel
theorem dX4_lose_35 : decode cX4_lose 35 = .ok (.ireturn, 1) := by decide +kernel
set_option maxRecDepth 20000 in
theorem ggX4_put_X4_isSheet : GoodIn wsX4_put wsX4_isSheet := goodIn_r _ [6] (by decide +kernel) (by decide +kernel)
set_option maxRecDepth 20000 in
theorem gX4_put_X4_isSheet : GoodIn wsX4_put (va_wsS RX4 45 yX4_isSheet wsX4_isSheet) := goodIn_app (goodIn_of _ (by decide +kernel)) ggX4_put_X4_isSheet
set_option maxRecDepth 20000 in
theorem ggX4_put_X4_refused : GoodIn wsX4_put wsX4_refused := goodIn_r _ [10, 2, 30, 31, 32, 33, 34, 35, 36] (by decide +kernel) (by decide +kernel)
set_option maxRecDepth 20000 in
theorem gX4_put_X4_refused : GoodIn wsX4_put (wsV RX4 49 RX4 yX4_refused wsX4_refused) := goodIn_app (goodIn_of _ (by decide +kernel)) ggX4_put_X4_refused
set_option maxRecDepth 20000 in
theorem ggX4_put_X1_hasNothing : GoodIn wsX4_put wsX1_hasNothing := goodIn_r _ [15, 16, 37, 38, 39] (by decide +kernel) (by decide +kernel)
set_option maxRecDepth 20000 in
theorem gX4_put_X1_hasNothing : GoodIn wsX4_put (wsV RX4 173 RX1 yX1_hasNothing wsX1_hasNothing) := goodIn_app (goodIn_of _ (by decide +kernel)) ggX4_put_X1_hasNothing
set_option maxRecDepth 20000 in
theorem ggX4_put_X4_faulted : GoodIn wsX4_put wsX4_faulted := goodIn_r _ [20, 2, 30, 31, 32, 33, 34, 35, 36] (by decide +kernel) (by decide +kernel)
set_option maxRecDepth 20000 in
theorem gX4_put_X4_faulted : GoodIn wsX4_put (wsV RX4 60 RX4 yX4_faulted wsX4_faulted) := goodIn_app (goodIn_of _ (by decide +kernel)) ggX4_put_X4_faulted
set_option maxRecDepth 20000 in
theorem ggX4_put_X1_hasCells : GoodIn wsX4_put wsX1_hasCells := goodIn_r _ [24, 25, 37, 38, 39] (by decide +kernel) (by decide +kernel)
set_option maxRecDepth 20000 in
theorem gX4_put_X1_hasCells : GoodIn wsX4_put (wsV RX4 177 RX1 yX1_hasCells wsX1_hasCells) := goodIn_app (goodIn_of _ (by decide +kernel)) ggX4_put_X1_hasCells
set_option maxRecDepth 20000 in
theorem ggX4_put_X1_cut : GoodIn wsX4_put wsX1_cut := goodIn_r _ [29, 16, 37, 38, 39] (by decide +kernel) (by decide +kernel)
set_option maxRecDepth 20000 in
theorem gX4_put_X1_cut : GoodIn wsX4_put (wsV RX4 180 RX1 yX1_cut wsX1_cut) := goodIn_app (goodIn_of _ (by decide +kernel)) ggX4_put_X1_cut
theorem dX4_put_0 : decode cX4_put 0 = .ok (.iload_n 1, 1) := by decide +kernel
theorem dX4_put_1 : decode cX4_put 1 = .ok (.invokestatic 45, 3) := by decide +kernel
theorem dX4_put_4 : decode cX4_put 4 = .ok (.ifCond .ne 9, 3) := by decide +kernel
theorem dX4_put_7 : decode cX4_put 7 = .ok (.aload_n 0, 1) := by decide +kernel
theorem dX4_put_8 : decode cX4_put 8 = .ok (.iconst (-1), 1) := by decide +kernel
theorem dX4_put_9 : decode cX4_put 9 = .ok (.invokevirtual 49, 3) := by decide +kernel
theorem dX4_put_12 : decode cX4_put 12 = .ok (.ireturn, 1) := by decide +kernel
theorem dX4_put_13 : decode cX4_put 13 = .ok (.aload_n 0, 1) := by decide +kernel
theorem dX4_put_14 : decode cX4_put 14 = .ok (.getfield 33, 3) := by decide +kernel
theorem dX4_put_17 : decode cX4_put 17 = .ok (.iload_n 1, 1) := by decide +kernel
theorem dX4_put_18 : decode cX4_put 18 = .ok (.aaload, 1) := by decide +kernel
theorem dX4_put_19 : decode cX4_put 19 = .ok (.invokevirtual 173, 3) := by decide +kernel
theorem dX4_put_22 : decode cX4_put 22 = .ok (.ifCond .eq 9, 3) := by decide +kernel
theorem dX4_put_25 : decode cX4_put 25 = .ok (.aload_n 0, 1) := by decide +kernel
theorem dX4_put_26 : decode cX4_put 26 = .ok (.iconst 1, 1) := by decide +kernel
theorem dX4_put_27 : decode cX4_put 27 = .ok (.invokevirtual 60, 3) := by decide +kernel
theorem dX4_put_30 : decode cX4_put 30 = .ok (.ireturn, 1) := by decide +kernel
theorem dX4_put_31 : decode cX4_put 31 = .ok (.aload_n 0, 1) := by decide +kernel
theorem dX4_put_32 : decode cX4_put 32 = .ok (.getfield 33, 3) := by decide +kernel
theorem dX4_put_35 : decode cX4_put 35 = .ok (.iload_n 1, 1) := by decide +kernel
theorem dX4_put_36 : decode cX4_put 36 = .ok (.aaload, 1) := by decide +kernel
theorem dX4_put_37 : decode cX4_put 37 = .ok (.iload_n 2, 1) := by decide +kernel
theorem dX4_put_38 : decode cX4_put 38 = .ok (.iconst 1, 1) := by decide +kernel
theorem dX4_put_39 : decode cX4_put 39 = .ok (.invokevirtual 177, 3) := by decide +kernel
theorem dX4_put_42 : decode cX4_put 42 = .ok (.ifCond .ne 9, 3) := by decide +kernel
theorem dX4_put_45 : decode cX4_put 45 = .ok (.aload_n 0, 1) := by decide +kernel
theorem dX4_put_46 : decode cX4_put 46 = .ok (.iconst 3, 1) := by decide +kernel
theorem dX4_put_47 : decode cX4_put 47 = .ok (.invokevirtual 60, 3) := by decide +kernel
theorem dX4_put_50 : decode cX4_put 50 = .ok (.ireturn, 1) := by decide +kernel
theorem dX4_put_51 : decode cX4_put 51 = .ok (.aload_n 0, 1) := by decide +kernel
theorem dX4_put_52 : decode cX4_put 52 = .ok (.iconst 0, 1) := by decide +kernel
theorem dX4_put_53 : decode cX4_put 53 = .ok (.putfield 40, 3) := by decide +kernel
theorem dX4_put_56 : decode cX4_put 56 = .ok (.aload_n 0, 1) := by decide +kernel
theorem dX4_put_57 : decode cX4_put 57 = .ok (.getfield 33, 3) := by decide +kernel
theorem dX4_put_60 : decode cX4_put 60 = .ok (.iload_n 1, 1) := by decide +kernel
theorem dX4_put_61 : decode cX4_put 61 = .ok (.aaload, 1) := by decide +kernel
theorem dX4_put_62 : decode cX4_put 62 = .ok (.getfield 139, 3) := by decide +kernel
theorem dX4_put_65 : decode cX4_put 65 = .ok (.iload_n 2, 1) := by decide +kernel
theorem dX4_put_66 : decode cX4_put 66 = .ok (.aload_n 0, 1) := by decide +kernel
theorem dX4_put_67 : decode cX4_put 67 = .ok (.getfield 33, 3) := by decide +kernel
theorem dX4_put_70 : decode cX4_put 70 = .ok (.iload_n 1, 1) := by decide +kernel
theorem dX4_put_71 : decode cX4_put 71 = .ok (.aaload, 1) := by decide +kernel
theorem dX4_put_72 : decode cX4_put 72 = .ok (.iload_n 3, 1) := by decide +kernel
theorem dX4_put_73 : decode cX4_put 73 = .ok (.invokevirtual 180, 3) := by decide +kernel
theorem dX4_put_76 : decode cX4_put 76 = .ok (.iastore, 1) := by decide +kernel
theorem dX4_put_77 : decode cX4_put 77 = .ok (.iconst 1, 1) := by decide +kernel
theorem dX4_put_78 : decode cX4_put 78 = .ok (.ireturn, 1) := by decide +kernel
set_option maxRecDepth 20000 in
theorem ggX4_cell_X4_isSheet : GoodIn wsX4_cell wsX4_isSheet := goodIn_r _ [7] (by decide +kernel) (by decide +kernel)
set_option maxRecDepth 20000 in
theorem gX4_cell_X4_isSheet : GoodIn wsX4_cell (va_wsS RX4 45 yX4_isSheet wsX4_isSheet) := goodIn_app (goodIn_of _ (by decide +kernel)) ggX4_cell_X4_isSheet
set_option maxRecDepth 20000 in
theorem ggX4_cell_X4_isLane : GoodIn wsX4_cell wsX4_isLane := goodIn_r _ [10] (by decide +kernel) (by decide +kernel)
set_option maxRecDepth 20000 in
theorem gX4_cell_X4_isLane : GoodIn wsX4_cell (va_wsS RX4 53 yX4_isLane wsX4_isLane) := goodIn_app (goodIn_of _ (by decide +kernel)) ggX4_cell_X4_isLane
set_option maxRecDepth 20000 in
theorem ggX4_cell_X1_faultOfTaking : GoodIn wsX4_cell wsX1_faultOfTaking := goodIn_r _ [15, 16, 17, 18, 19, 14, 20, 21, 22, 23, 24, 25, 33, 34, 35] (by decide +kernel) (by decide +kernel)
set_option maxRecDepth 20000 in
theorem gX4_cell_X1_faultOfTaking : GoodIn wsX4_cell (wsV RX4 56 RX1 yX1_faultOfTaking wsX1_faultOfTaking) := goodIn_app (goodIn_of _ (by decide +kernel)) ggX4_cell_X1_faultOfTaking
theorem dX4_cell_0 : decode cX4_cell 0 = .ok (.iload_n 1, 1) := by decide +kernel
theorem dX4_cell_1 : decode cX4_cell 1 = .ok (.invokestatic 45, 3) := by decide +kernel
theorem dX4_cell_4 : decode cX4_cell 4 = .ok (.ifCond .eq 10, 3) := by decide +kernel
theorem dX4_cell_7 : decode cX4_cell 7 = .ok (.iload_n 3, 1) := by decide +kernel
theorem dX4_cell_8 : decode cX4_cell 8 = .ok (.invokestatic 53, 3) := by decide +kernel
theorem dX4_cell_11 : decode cX4_cell 11 = .ok (.ifCond .ne 12, 3) := by decide +kernel
theorem dX4_cell_14 : decode cX4_cell 14 = .ok (.aload_n 0, 1) := by decide +kernel
theorem dX4_cell_15 : decode cX4_cell 15 = .ok (.iconst 0, 1) := by decide +kernel
theorem dX4_cell_16 : decode cX4_cell 16 = .ok (.putfield 40, 3) := by decide +kernel
theorem dX4_cell_19 : decode cX4_cell 19 = .ok (.ldc2_w 163, 3) := by decide +kernel
theorem dX4_cell_22 : decode cX4_cell 22 = .ok (.lreturn, 1) := by decide +kernel
theorem dX4_cell_23 : decode cX4_cell 23 = .ok (.aload_n 0, 1) := by decide +kernel
theorem dX4_cell_24 : decode cX4_cell 24 = .ok (.aload_n 0, 1) := by decide +kernel
theorem dX4_cell_25 : decode cX4_cell 25 = .ok (.getfield 33, 3) := by decide +kernel
theorem dX4_cell_28 : decode cX4_cell 28 = .ok (.iload_n 1, 1) := by decide +kernel
theorem dX4_cell_29 : decode cX4_cell 29 = .ok (.aaload, 1) := by decide +kernel
theorem dX4_cell_30 : decode cX4_cell 30 = .ok (.iload_n 3, 1) := by decide +kernel
theorem dX4_cell_31 : decode cX4_cell 31 = .ok (.iload_n 2, 1) := by decide +kernel
theorem dX4_cell_32 : decode cX4_cell 32 = .ok (.iconst 1, 1) := by decide +kernel
theorem dX4_cell_33 : decode cX4_cell 33 = .ok (.invokevirtual 56, 3) := by decide +kernel
theorem dX4_cell_36 : decode cX4_cell 36 = .ok (.putfield 40, 3) := by decide +kernel
theorem dX4_cell_39 : decode cX4_cell 39 = .ok (.aload_n 0, 1) := by decide +kernel
theorem dX4_cell_40 : decode cX4_cell 40 = .ok (.getfield 40, 3) := by decide +kernel
theorem dX4_cell_43 : decode cX4_cell 43 = .ok (.ifCond .eq 7, 3) := by decide +kernel
theorem dX4_cell_46 : decode cX4_cell 46 = .ok (.ldc2_w 163, 3) := by decide +kernel
theorem dX4_cell_49 : decode cX4_cell 49 = .ok (.lreturn, 1) := by decide +kernel
theorem dX4_cell_50 : decode cX4_cell 50 = .ok (.aload_n 0, 1) := by decide +kernel
theorem dX4_cell_51 : decode cX4_cell 51 = .ok (.getfield 33, 3) := by decide +kernel
theorem dX4_cell_54 : decode cX4_cell 54 = .ok (.iload_n 1, 1) := by decide +kernel
theorem dX4_cell_55 : decode cX4_cell 55 = .ok (.aaload, 1) := by decide +kernel
theorem dX4_cell_56 : decode cX4_cell 56 = .ok (.getfield 139, 3) := by decide +kernel
theorem dX4_cell_59 : decode cX4_cell 59 = .ok (.iload_n 2, 1) := by decide +kernel
theorem dX4_cell_60 : decode cX4_cell 60 = .ok (.iaload, 1) := by decide +kernel
theorem dX4_cell_61 : decode cX4_cell 61 = .ok (.i2l, 1) := by decide +kernel
theorem dX4_cell_62 : decode cX4_cell 62 = .ok (.lreturn, 1) := by decide +kernel
set_option maxRecDepth 20000 in
theorem ggX4_copy_X4_isSheet : GoodIn wsX4_copy wsX4_isSheet := goodIn_r _ [10] (by decide +kernel) (by decide +kernel)
set_option maxRecDepth 20000 in
theorem gX4_copy_X4_isSheet : GoodIn wsX4_copy (va_wsS RX4 45 yX4_isSheet wsX4_isSheet) := goodIn_app (goodIn_of _ (by decide +kernel)) ggX4_copy_X4_isSheet
set_option maxRecDepth 20000 in
theorem ggX4_copy_X4_refused : GoodIn wsX4_copy wsX4_refused := goodIn_r _ [14, 2, 30, 31, 32, 33, 34, 35, 36] (by decide +kernel) (by decide +kernel)
set_option maxRecDepth 20000 in
theorem gX4_copy_X4_refused : GoodIn wsX4_copy (wsV RX4 49 RX4 yX4_refused wsX4_refused) := goodIn_app (goodIn_of _ (by decide +kernel)) ggX4_copy_X4_refused
set_option maxRecDepth 20000 in
theorem ggX4_copy_X1_hasNothing : GoodIn wsX4_copy wsX1_hasNothing := goodIn_r _ [19, 20, 37, 38, 39] (by decide +kernel) (by decide +kernel)
set_option maxRecDepth 20000 in
theorem gX4_copy_X1_hasNothing : GoodIn wsX4_copy (wsV RX4 173 RX1 yX1_hasNothing wsX1_hasNothing) := goodIn_app (goodIn_of _ (by decide +kernel)) ggX4_copy_X1_hasNothing
set_option maxRecDepth 20000 in
theorem ggX4_copy_X4_faulted : GoodIn wsX4_copy wsX4_faulted := goodIn_r _ [24, 2, 30, 31, 32, 33, 34, 35, 36] (by decide +kernel) (by decide +kernel)
set_option maxRecDepth 20000 in
theorem gX4_copy_X4_faulted : GoodIn wsX4_copy (wsV RX4 60 RX4 yX4_faulted wsX4_faulted) := goodIn_app (goodIn_of _ (by decide +kernel)) ggX4_copy_X4_faulted
set_option maxRecDepth 20000 in
theorem ggX4_copy_X1_hasCells : GoodIn wsX4_copy wsX1_hasCells := goodIn_r _ [28, 29, 37, 38, 39] (by decide +kernel) (by decide +kernel)
set_option maxRecDepth 20000 in
theorem gX4_copy_X1_hasCells : GoodIn wsX4_copy (wsV RX4 177 RX1 yX1_hasCells wsX1_hasCells) := goodIn_app (goodIn_of _ (by decide +kernel)) ggX4_copy_X1_hasCells
theorem dX4_copy_0 : decode cX4_copy 0 = .ok (.iload_n 1, 1) := by decide +kernel
theorem dX4_copy_1 : decode cX4_copy 1 = .ok (.invokestatic 45, 3) := by decide +kernel
theorem dX4_copy_4 : decode cX4_copy 4 = .ok (.ifCond .eq 10, 3) := by decide +kernel
theorem dX4_copy_7 : decode cX4_copy 7 = .ok (.iload_n 3, 1) := by decide +kernel
theorem dX4_copy_8 : decode cX4_copy 8 = .ok (.invokestatic 45, 3) := by decide +kernel
theorem dX4_copy_11 : decode cX4_copy 11 = .ok (.ifCond .ne 9, 3) := by decide +kernel
theorem dX4_copy_14 : decode cX4_copy 14 = .ok (.aload_n 0, 1) := by decide +kernel
theorem dX4_copy_15 : decode cX4_copy 15 = .ok (.iconst (-1), 1) := by decide +kernel
theorem dX4_copy_16 : decode cX4_copy 16 = .ok (.invokevirtual 49, 3) := by decide +kernel
theorem dX4_copy_19 : decode cX4_copy 19 = .ok (.ireturn, 1) := by decide +kernel
theorem dX4_copy_20 : decode cX4_copy 20 = .ok (.aload_n 0, 1) := by decide +kernel
theorem dX4_copy_21 : decode cX4_copy 21 = .ok (.getfield 33, 3) := by decide +kernel
theorem dX4_copy_24 : decode cX4_copy 24 = .ok (.iload_n 1, 1) := by decide +kernel
theorem dX4_copy_25 : decode cX4_copy 25 = .ok (.aaload, 1) := by decide +kernel
theorem dX4_copy_26 : decode cX4_copy 26 = .ok (.astore 6, 2) := by decide +kernel
theorem dX4_copy_28 : decode cX4_copy 28 = .ok (.aload_n 0, 1) := by decide +kernel
theorem dX4_copy_29 : decode cX4_copy 29 = .ok (.getfield 33, 3) := by decide +kernel
theorem dX4_copy_32 : decode cX4_copy 32 = .ok (.iload_n 3, 1) := by decide +kernel
theorem dX4_copy_33 : decode cX4_copy 33 = .ok (.aaload, 1) := by decide +kernel
theorem dX4_copy_34 : decode cX4_copy 34 = .ok (.astore 7, 2) := by decide +kernel
theorem dX4_copy_36 : decode cX4_copy 36 = .ok (.aload 6, 2) := by decide +kernel
theorem dX4_copy_38 : decode cX4_copy 38 = .ok (.invokevirtual 173, 3) := by decide +kernel
theorem dX4_copy_41 : decode cX4_copy 41 = .ok (.ifCond .ne 11, 3) := by decide +kernel
theorem dX4_copy_44 : decode cX4_copy 44 = .ok (.aload 7, 2) := by decide +kernel
theorem dX4_copy_46 : decode cX4_copy 46 = .ok (.invokevirtual 173, 3) := by decide +kernel
theorem dX4_copy_49 : decode cX4_copy 49 = .ok (.ifCond .eq 9, 3) := by decide +kernel
theorem dX4_copy_52 : decode cX4_copy 52 = .ok (.aload_n 0, 1) := by decide +kernel
theorem dX4_copy_53 : decode cX4_copy 53 = .ok (.iconst 1, 1) := by decide +kernel
theorem dX4_copy_54 : decode cX4_copy 54 = .ok (.invokevirtual 60, 3) := by decide +kernel
theorem dX4_copy_57 : decode cX4_copy 57 = .ok (.ireturn, 1) := by decide +kernel
theorem dX4_copy_58 : decode cX4_copy 58 = .ok (.aload 6, 2) := by decide +kernel
theorem dX4_copy_60 : decode cX4_copy 60 = .ok (.getfield 183, 3) := by decide +kernel
theorem dX4_copy_63 : decode cX4_copy 63 = .ok (.aload 7, 2) := by decide +kernel
theorem dX4_copy_65 : decode cX4_copy 65 = .ok (.getfield 183, 3) := by decide +kernel
theorem dX4_copy_68 : decode cX4_copy 68 = .ok (.if_icmp .eq 9, 3) := by decide +kernel
