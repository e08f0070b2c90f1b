theorem dX4_on_39 : decode cX4_on 39 = .ok (.invokestatic 129, 3) := by decide +kernel
theorem dX4_on_42 : decode cX4_on 42 = .ok (.aload_n 0, 1) := by decide +kernel
theorem dX4_on_43 : decode cX4_on 43 = .ok (.iload_n 2, 1) := by decide +kernel
theorem dX4_on_44 : decode cX4_on 44 = .ok (.bipush 35, 2) := by decide +kernel
theorem dX4_on_46 : decode cX4_on 46 = .ok (.iconst 4, 1) := by decide +kernel
theorem dX4_on_47 : decode cX4_on 47 = .ok (.iload_n 1, 1) := by decide +kernel
theorem dX4_on_48 : decode cX4_on 48 = .ok (.imul, 1) := by decide +kernel
theorem dX4_on_49 : decode cX4_on 49 = .ok (.iadd, 1) := by decide +kernel
theorem dX4_on_50 : decode cX4_on 50 = .ok (.iload_n 3, 1) := by decide +kernel
theorem dX4_on_51 : decode cX4_on 51 = .ok (.ifCond .ne 7, 3) := by decide +kernel
theorem dX4_on_54 : decode cX4_on 54 = .ok (.iconst 1, 1) := by decide +kernel
theorem dX4_on_55 : decode cX4_on 55 = .ok (.goto 4, 3) := by decide +kernel
theorem dX4_on_58 : decode cX4_on 58 = .ok (.iconst 3, 1) := by decide +kernel
theorem dX4_on_59 : decode cX4_on 59 = .ok (.iadd, 1) := by decide +kernel
theorem dX4_on_60 : decode cX4_on 60 = .ok (.invokevirtual 143, 3) := by decide +kernel
theorem dX4_on_63 : decode cX4_on 63 = .ok (.ireturn, 1) := by decide +kernel
set_option maxRecDepth 20000 in
theorem ggX4_house_X4_isAhead : GoodIn wsX4_house wsX4_isAhead := goodIn_r _ [6, 7, 8, 9, 5, 10] (by decide +kernel) (by decide +kernel)
set_option maxRecDepth 20000 in
theorem gX4_house_X4_isAhead : GoodIn wsX4_house (va_wsS RX4 137 yX4_isAhead wsX4_isAhead) := goodIn_app (goodIn_of _ (by decide +kernel)) ggX4_house_X4_isAhead
set_option maxRecDepth 20000 in
theorem ggX4_house_X4_finds : GoodIn wsX4_house wsX4_finds := goodIn_r _ [14, 15, 16, 68, 69, 70, 71, 72, 73, 74, 75, 76, 77, 78, 79, 80, 81, 82, 83, 84, 85] (by decide +kernel) (by decide +kernel)
set_option maxRecDepth 20000 in
theorem gX4_house_X4_finds : GoodIn wsX4_house (wsV RX4 92 RX4 yX4_finds wsX4_finds) := goodIn_app (goodIn_of _ (by decide +kernel)) ggX4_house_X4_finds
set_option maxRecDepth 20000 in
theorem ggX4_house_X4_copies : GoodIn wsX4_house wsX4_copies := goodIn_r _ [19] (by decide +kernel) (by decide +kernel)
set_option maxRecDepth 20000 in
theorem gX4_house_X4_copies : GoodIn wsX4_house (va_wsS RX4 129 yX4_copies wsX4_copies) := goodIn_app (goodIn_of _ (by decide +kernel)) ggX4_house_X4_copies
set_option maxRecDepth 20000 in
theorem ggX4_house_X4_houseBehind : GoodIn wsX4_house wsX4_houseBehind := goodIn_r _ [23, 2, 1, 24, 25, 26, 5, 27, 28, 29, 30, 31, 32, 33, 34, 35, 36, 37, 38, 39, 40, 41, 42, 43, 44, 45, 46, 47, 48, 8, 9, 10, 49, 50, 51, 52, 53, 54, 55, 56, 57, 58, 59, 60, 61, 62, 63, 64, 65, 66, 67, 17, 18, 19, 68, 69, 70, 71, 72, 73, 74, 75, 76, 77, 78, 79, 80, 81, 82, 83, 84, 85] (by decide +kernel) (by decide +kernel)
set_option maxRecDepth 20000 in
theorem gX4_house_X4_houseBehind : GoodIn wsX4_house (wsV RX4 146 RX4 yX4_houseBehind wsX4_houseBehind) := goodIn_app (goodIn_of _ (by decide +kernel)) ggX4_house_X4_houseBehind
theorem dX4_house_0 : decode cX4_house 0 = .ok (.iload_n 1, 1) := by decide +kernel
theorem dX4_house_1 : decode cX4_house 1 = .ok (.invokestatic 137, 3) := by decide +kernel
theorem dX4_house_4 : decode cX4_house 4 = .ok (.ifCond .ne 9, 3) := by decide +kernel
theorem dX4_house_7 : decode cX4_house 7 = .ok (.aload_n 0, 1) := by decide +kernel
theorem dX4_house_8 : decode cX4_house 8 = .ok (.iconst 0, 1) := by decide +kernel
theorem dX4_house_9 : decode cX4_house 9 = .ok (.invokevirtual 92, 3) := by decide +kernel
theorem dX4_house_12 : decode cX4_house 12 = .ok (.ireturn, 1) := by decide +kernel
theorem dX4_house_13 : decode cX4_house 13 = .ok (.aload_n 0, 1) := by decide +kernel
theorem dX4_house_14 : decode cX4_house 14 = .ok (.getfield 7, 3) := by decide +kernel
theorem dX4_house_17 : decode cX4_house 17 = .ok (.aload_n 0, 1) := by decide +kernel
theorem dX4_house_18 : decode cX4_house 18 = .ok (.getfield 16, 3) := by decide +kernel
theorem dX4_house_21 : decode cX4_house 21 = .ok (.invokestatic 129, 3) := by decide +kernel
theorem dX4_house_24 : decode cX4_house 24 = .ok (.aload_n 0, 1) := by decide +kernel
theorem dX4_house_25 : decode cX4_house 25 = .ok (.iload_n 1, 1) := by decide +kernel
theorem dX4_house_26 : decode cX4_house 26 = .ok (.invokevirtual 146, 3) := by decide +kernel
theorem dX4_house_29 : decode cX4_house 29 = .ok (.ireturn, 1) := by decide +kernel
set_option maxRecDepth 20000 in
theorem ggX4_heard_X4_in : GoodIn wsX4_heard wsX4_in := goodIn_r _ [7] (by decide +kernel) (by decide +kernel)
set_option maxRecDepth 20000 in
theorem gX4_heard_X4_in : GoodIn wsX4_heard (va_wsS RX4 46 yX4_in wsX4_in) := goodIn_app (goodIn_of _ (by decide +kernel)) ggX4_heard_X4_in
set_option maxRecDepth 20000 in
theorem ggX4_heard_X4_isDone : GoodIn wsX4_heard wsX4_isDone := goodIn_r _ [10, 11, 4, 5, 6, 7] (by decide +kernel) (by decide +kernel)
set_option maxRecDepth 20000 in
theorem gX4_heard_X4_isDone : GoodIn wsX4_heard (va_wsS RX4 110 yX4_isDone wsX4_isDone) := goodIn_app (goodIn_of _ (by decide +kernel)) ggX4_heard_X4_isDone
set_option maxRecDepth 20000 in
theorem ggX4_heard_X4_finds : GoodIn wsX4_heard wsX4_finds := goodIn_r _ [15, 16, 17, 65, 66, 67, 68, 69, 70, 71, 72, 73, 74, 75, 76, 77, 78, 79, 80, 81, 82] (by decide +kernel) (by decide +kernel)
set_option maxRecDepth 20000 in
theorem gX4_heard_X4_finds : GoodIn wsX4_heard (wsV RX4 92 RX4 yX4_finds wsX4_finds) := goodIn_app (goodIn_of _ (by decide +kernel)) ggX4_heard_X4_finds
set_option maxRecDepth 20000 in
theorem ggX4_heard_X4_copies : GoodIn wsX4_heard wsX4_copies := goodIn_r _ [20] (by decide +kernel) (by decide +kernel)
set_option maxRecDepth 20000 in
theorem gX4_heard_X4_copies : GoodIn wsX4_heard (va_wsS RX4 129 yX4_copies wsX4_copies) := goodIn_app (goodIn_of _ (by decide +kernel)) ggX4_heard_X4_copies
set_option maxRecDepth 20000 in
theorem ggX4_heard_X4_momentsGo : GoodIn wsX4_heard wsX4_momentsGo := goodIn_r _ [24, 25, 26, 27, 6, 28, 2, 29, 30, 31, 32, 33, 34, 35, 36, 37, 38, 39, 40, 41, 42, 43, 44, 45, 4, 5, 7, 46, 47, 48, 49, 50, 51, 52, 53, 54, 55, 56, 57, 58, 59, 60, 65, 66, 67, 68, 69, 70, 71, 72, 73, 74, 75, 76, 77, 78, 79, 80, 81, 82] (by decide +kernel) (by decide +kernel)
set_option maxRecDepth 20000 in
theorem gX4_heard_X4_momentsGo : GoodIn wsX4_heard (wsV RX4 125 RX4 yX4_momentsGo wsX4_momentsGo) := goodIn_app (goodIn_of _ (by decide +kernel)) ggX4_heard_X4_momentsGo
set_option maxRecDepth 20000 in
theorem ggX4_heard_X4_doers : GoodIn wsX4_heard wsX4_doers := goodIn_r _ [64, 2, 30, 31, 32, 6, 33, 34, 35, 36, 37, 38, 39, 40, 41, 42, 43, 44, 45, 4, 5, 7, 65, 66, 67, 68, 69, 70, 71, 72, 73, 74, 75, 76, 77, 78, 79, 80, 81, 82] (by decide +kernel) (by decide +kernel)
set_option maxRecDepth 20000 in
theorem gX4_heard_X4_doers : GoodIn wsX4_heard (wsV RX4 101 RX4 yX4_doers wsX4_doers) := goodIn_app (goodIn_of _ (by decide +kernel)) ggX4_heard_X4_doers
theorem dX4_heard_0 : decode cX4_heard 0 = .ok (.iload_n 1, 1) := by decide +kernel
theorem dX4_heard_1 : decode cX4_heard 1 = .ok (.i2l, 1) := by decide +kernel
theorem dX4_heard_2 : decode cX4_heard 2 = .ok (.lconst 1, 1) := by decide +kernel
theorem dX4_heard_3 : decode cX4_heard 3 = .ok (.ldc2_w 133, 3) := by decide +kernel
theorem dX4_heard_6 : decode cX4_heard 6 = .ok (.invokestatic 46, 3) := by decide +kernel
theorem dX4_heard_9 : decode cX4_heard 9 = .ok (.ifCond .eq 10, 3) := by decide +kernel
theorem dX4_heard_12 : decode cX4_heard 12 = .ok (.iload_n 2, 1) := by decide +kernel
theorem dX4_heard_13 : decode cX4_heard 13 = .ok (.invokestatic 110, 3) := by decide +kernel
theorem dX4_heard_16 : decode cX4_heard 16 = .ok (.ifCond .ne 9, 3) := by decide +kernel
theorem dX4_heard_19 : decode cX4_heard 19 = .ok (.aload_n 0, 1) := by decide +kernel
theorem dX4_heard_20 : decode cX4_heard 20 = .ok (.iconst 0, 1) := by decide +kernel
theorem dX4_heard_21 : decode cX4_heard 21 = .ok (.invokevirtual 92, 3) := by decide +kernel
theorem dX4_heard_24 : decode cX4_heard 24 = .ok (.ireturn, 1) := by decide +kernel
theorem dX4_heard_25 : decode cX4_heard 25 = .ok (.aload_n 0, 1) := by decide +kernel
theorem dX4_heard_26 : decode cX4_heard 26 = .ok (.getfield 7, 3) := by decide +kernel
theorem dX4_heard_29 : decode cX4_heard 29 = .ok (.aload_n 0, 1) := by decide +kernel
theorem dX4_heard_30 : decode cX4_heard 30 = .ok (.getfield 16, 3) := by decide +kernel
theorem dX4_heard_33 : decode cX4_heard 33 = .ok (.invokestatic 129, 3) := by decide +kernel
theorem dX4_heard_36 : decode cX4_heard 36 = .ok (.aload_n 0, 1) := by decide +kernel
theorem dX4_heard_37 : decode cX4_heard 37 = .ok (.iload_n 1, 1) := by decide +kernel
theorem dX4_heard_38 : decode cX4_heard 38 = .ok (.iconst 1, 1) := by decide +kernel
theorem dX4_heard_39 : decode cX4_heard 39 = .ok (.isub, 1) := by decide +kernel
theorem dX4_heard_40 : decode cX4_heard 40 = .ok (.invokevirtual 125, 3) := by decide +kernel
theorem dX4_heard_43 : decode cX4_heard 43 = .ok (.aload_n 0, 1) := by decide +kernel
theorem dX4_heard_44 : decode cX4_heard 44 = .ok (.iload_n 2, 1) := by decide +kernel
theorem dX4_heard_45 : decode cX4_heard 45 = .ok (.iconst 0, 1) := by decide +kernel
theorem dX4_heard_46 : decode cX4_heard 46 = .ok (.invokevirtual 101, 3) := by decide +kernel
theorem dX4_heard_49 : decode cX4_heard 49 = .ok (.istore_n 3, 1) := by decide +kernel
theorem dX4_heard_50 : decode cX4_heard 50 = .ok (.aload_n 0, 1) := by decide +kernel
theorem dX4_heard_51 : decode cX4_heard 51 = .ok (.getfield 16, 3) := by decide +kernel
theorem dX4_heard_54 : decode cX4_heard 54 = .ok (.aload_n 0, 1) := by decide +kernel
theorem dX4_heard_55 : decode cX4_heard 55 = .ok (.getfield 7, 3) := by decide +kernel
theorem dX4_heard_58 : decode cX4_heard 58 = .ok (.invokestatic 129, 3) := by decide +kernel
theorem dX4_heard_61 : decode cX4_heard 61 = .ok (.iload_n 3, 1) := by decide +kernel
theorem dX4_heard_62 : decode cX4_heard 62 = .ok (.ireturn, 1) := by decide +kernel
set_option maxRecDepth 20000 in
theorem ggX4_does_X4_isPerson : GoodIn wsX4_does wsX4_isPerson := goodIn_r _ [7, 1, 8, 9, 6, 10, 56, 57, 58, 59, 60, 61, 62, 63, 64, 65, 66, 67, 68, 69, 70, 71, 72, 73] (by decide +kernel) (by decide +kernel)
set_option maxRecDepth 20000 in
theorem gX4_does_X4_isPerson : GoodIn wsX4_does (wsV RX4 50 RX4 yX4_isPerson wsX4_isPerson) := goodIn_app (goodIn_of _ (by decide +kernel)) ggX4_does_X4_isPerson
set_option maxRecDepth 20000 in
theorem ggX4_does_X4_isDone : GoodIn wsX4_does wsX4_isDone := goodIn_r _ [13, 14, 8, 9, 6, 10] (by decide +kernel) (by decide +kernel)
set_option maxRecDepth 20000 in
theorem gX4_does_X4_isDone : GoodIn wsX4_does (va_wsS RX4 110 yX4_isDone wsX4_isDone) := goodIn_app (goodIn_of _ (by decide +kernel)) ggX4_does_X4_isDone
set_option maxRecDepth 20000 in
theorem ggX4_does_X4_finds : GoodIn wsX4_does wsX4_finds := goodIn_r _ [18, 19, 20, 56, 57, 58, 59, 60, 61, 62, 63, 64, 65, 66, 67, 68, 69, 70, 71, 72, 73] (by decide +kernel) (by decide +kernel)
set_option maxRecDepth 20000 in
theorem gX4_does_X4_finds : GoodIn wsX4_does (wsV RX4 92 RX4 yX4_finds wsX4_finds) := goodIn_app (goodIn_of _ (by decide +kernel)) ggX4_does_X4_finds
set_option maxRecDepth 20000 in
theorem ggX4_does_X4_copies : GoodIn wsX4_does wsX4_copies := goodIn_r _ [23] (by decide +kernel) (by decide +kernel)
set_option maxRecDepth 20000 in
theorem gX4_does_X4_copies : GoodIn wsX4_does (va_wsS RX4 129 yX4_copies wsX4_copies) := goodIn_app (goodIn_of _ (by decide +kernel)) ggX4_does_X4_copies
set_option maxRecDepth 20000 in
theorem ggX4_does_X4_doesNow : GoodIn wsX4_does wsX4_doesNow := goodIn_r _ [27, 1, 28, 29, 30, 6, 31, 32, 33, 34, 35, 3, 4, 5, 7, 8, 9, 10, 56, 57, 58, 59, 60, 61, 62, 63, 64, 65, 66, 67, 68, 69, 70, 71, 72, 73] (by decide +kernel) (by decide +kernel)
set_option maxRecDepth 20000 in
theorem gX4_does_X4_doesNow : GoodIn wsX4_does (wsV RX4 66 RX4 yX4_doesNow wsX4_doesNow) := goodIn_app (goodIn_of _ (by decide +kernel)) ggX4_does_X4_doesNow
set_option maxRecDepth 20000 in
theorem ggX4_does_X4_momentGoes : GoodIn wsX4_does wsX4_momentGoes := goodIn_r _ [39, 1, 40, 24, 25, 26, 6, 27, 28, 29, 30, 31, 32, 33, 34, 35, 3, 4, 5, 7, 8, 9, 10, 41, 42, 43, 44, 45, 46, 47, 48, 49, 50, 51, 52, 53, 54, 55, 56, 57, 58, 59, 60, 61, 62, 63, 64, 65, 66, 67, 68, 69, 70, 71, 72, 73] (by decide +kernel) (by decide +kernel)
set_option maxRecDepth 20000 in
theorem gX4_does_X4_momentGoes : GoodIn wsX4_does (wsV RX4 80 RX4 yX4_momentGoes wsX4_momentGoes) := goodIn_app (goodIn_of _ (by decide +kernel)) ggX4_does_X4_momentGoes
theorem dX4_does_0 : decode cX4_does 0 = .ok (.aload_n 0, 1) := by decide +kernel
theorem dX4_does_1 : decode cX4_does 1 = .ok (.iload_n 1, 1) := by decide +kernel
theorem dX4_does_2 : decode cX4_does 2 = .ok (.invokevirtual 50, 3) := by decide +kernel
theorem dX4_does_5 : decode cX4_does 5 = .ok (.ifCond .eq 10, 3) := by decide +kernel
theorem dX4_does_8 : decode cX4_does 8 = .ok (.iload_n 2, 1) := by decide +kernel
theorem dX4_does_9 : decode cX4_does 9 = .ok (.invokestatic 110, 3) := by decide +kernel
theorem dX4_does_12 : decode cX4_does 12 = .ok (.ifCond .ne 9, 3) := by decide +kernel
theorem dX4_does_15 : decode cX4_does 15 = .ok (.aload_n 0, 1) := by decide +kernel
theorem dX4_does_16 : decode cX4_does 16 = .ok (.iconst 0, 1) := by decide +kernel
theorem dX4_does_17 : decode cX4_does 17 = .ok (.invokevirtual 92, 3) := by decide +kernel
theorem dX4_does_20 : decode cX4_does 20 = .ok (.ireturn, 1) := by decide +kernel
theorem dX4_does_21 : decode cX4_does 21 = .ok (.aload_n 0, 1) := by decide +kernel
theorem dX4_does_22 : decode cX4_does 22 = .ok (.getfield 7, 3) := by decide +kernel
theorem dX4_does_25 : decode cX4_does 25 = .ok (.aload_n 0, 1) := by decide +kernel
theorem dX4_does_26 : decode cX4_does 26 = .ok (.getfield 16, 3) := by decide +kernel
theorem dX4_does_29 : decode cX4_does 29 = .ok (.invokestatic 129, 3) := by decide +kernel
theorem dX4_does_32 : decode cX4_does 32 = .ok (.iconst 1, 1) := by decide +kernel
theorem dX4_does_33 : decode cX4_does 33 = .ok (.istore_n 3, 1) := by decide +kernel
theorem dX4_does_34 : decode cX4_does 34 = .ok (.iload_n 3, 1) := by decide +kernel
theorem dX4_does_35 : decode cX4_does 35 = .ok (.sipush 400, 3) := by decide +kernel
theorem dX4_does_38 : decode cX4_does 38 = .ok (.if_icmp .ge 22, 3) := by decide +kernel
theorem dX4_does_41 : decode cX4_does 41 = .ok (.aload_n 0, 1) := by decide +kernel
theorem dX4_does_42 : decode cX4_does 42 = .ok (.iload_n 1, 1) := by decide +kernel
theorem dX4_does_43 : decode cX4_does 43 = .ok (.invokevirtual 66, 3) := by decide +kernel
theorem dX4_does_46 : decode cX4_does 46 = .ok (.iload_n 2, 1) := by decide +kernel
theorem dX4_does_47 : decode cX4_does 47 = .ok (.if_icmp .eq 13, 3) := by decide +kernel
theorem dX4_does_50 : decode cX4_does 50 = .ok (.aload_n 0, 1) := by decide +kernel
theorem dX4_does_51 : decode cX4_does 51 = .ok (.invokevirtual 80, 3) := by decide +kernel
theorem dX4_does_54 : decode cX4_does 54 = .ok (.iinc 3 1, 3) := by decide +kernel
theorem dX4_does_57 : decode cX4_does 57 = .ok (.goto (-23), 3) := by decide +kernel
theorem dX4_does_60 : decode cX4_does 60 = .ok (.aload_n 0, 1) := by decide +kernel
theorem dX4_does_61 : decode cX4_does 61 = .ok (.iload_n 1, 1) := by decide +kernel
theorem dX4_does_62 : decode cX4_does 62 = .ok (.invokevirtual 66, 3) := by decide +kernel
theorem dX4_does_65 : decode cX4_does 65 = .ok (.iload_n 2, 1) := by decide +kernel
theorem dX4_does_66 : decode cX4_does 66 = .ok (.if_icmp .ne 7, 3) := by decide +kernel
theorem dX4_does_69 : decode cX4_does 69 = .ok (.iconst 1, 1) := by decide +kernel
theorem dX4_does_70 : decode cX4_does 70 = .ok (.goto 4, 3) := by decide +kernel
theorem dX4_does_73 : decode cX4_does 73 = .ok (.iconst 0, 1) := by decide +kernel
theorem dX4_does_74 : decode cX4_does 74 = .ok (.istore 4, 2) := by decide +kernel
theorem dX4_does_76 : decode cX4_does 76 = .ok (.aload_n 0, 1) := by decide +kernel
theorem dX4_does_77 : decode cX4_does 77 = .ok (.getfield 16, 3) := by decide +kernel
theorem dX4_does_80 : decode cX4_does 80 = .ok (.aload_n 0, 1) := by decide +kernel
theorem dX4_does_81 : decode cX4_does 81 = .ok (.getfield 7, 3) := by decide +kernel
theorem dX4_does_84 : decode cX4_does 84 = .ok (.invokestatic 129, 3) := by decide +kernel
theorem dX4_does_87 : decode cX4_does 87 = .ok (.iload 4, 2) := by decide +kernel
theorem dX4_does_89 : decode cX4_does 89 = .ok (.ifCond .eq 7, 3) := by decide +kernel
theorem dX4_does_92 : decode cX4_does 92 = .ok (.iload_n 3, 1) := by decide +kernel
theorem dX4_does_93 : decode cX4_does 93 = .ok (.goto 8, 3) := by decide +kernel
theorem dX4_does_96 : decode cX4_does 96 = .ok (.aload_n 0, 1) := by decide +kernel
theorem dX4_does_97 : decode cX4_does 97 = .ok (.iconst 3, 1) := by decide +kernel
theorem dX4_does_98 : decode cX4_does 98 = .ok (.invokevirtual 92, 3) := by decide +kernel
theorem dX4_does_101 : decode cX4_does 101 = .ok (.ireturn, 1) := by decide +kernel
set_option maxRecDepth 20000 in
theorem ggX4_comes_X4_isPerson : GoodIn wsX4_comes wsX4_isPerson := goodIn_r _ [9, 3, 10, 11, 8, 12, 54, 55, 56, 57, 58, 59, 60, 61, 62, 63, 64, 65, 66, 67, 68, 69, 70, 71] (by decide +kernel) (by decide +kernel)
set_option maxRecDepth 20000 in
theorem gX4_comes_X4_isPerson : GoodIn wsX4_comes (wsV RX4 50 RX4 yX4_isPerson wsX4_isPerson) := goodIn_app (goodIn_of _ (by decide +kernel)) ggX4_comes_X4_isPerson
set_option maxRecDepth 20000 in
theorem ggX4_comes_X4_in : GoodIn wsX4_comes wsX4_in := goodIn_r _ [12] (by decide +kernel) (by decide +kernel)
set_option maxRecDepth 20000 in
theorem gX4_comes_X4_in : GoodIn wsX4_comes (va_wsS RX4 46 yX4_in wsX4_in) := goodIn_app (goodIn_of _ (by decide +kernel)) ggX4_comes_X4_in
set_option maxRecDepth 20000 in
theorem ggX4_comes_X4_finds : GoodIn wsX4_comes wsX4_finds := goodIn_r _ [16, 17, 18, 54, 55, 56, 57, 58, 59, 60, 61, 62, 63, 64, 65, 66, 67, 68, 69, 70, 71] (by decide +kernel) (by decide +kernel)
set_option maxRecDepth 20000 in
theorem gX4_comes_X4_finds : GoodIn wsX4_comes (wsV RX4 92 RX4 yX4_finds wsX4_finds) := goodIn_app (goodIn_of _ (by decide +kernel)) ggX4_comes_X4_finds
set_option maxRecDepth 20000 in
theorem ggX4_comes_X4_copies : GoodIn wsX4_comes wsX4_copies := goodIn_r _ [21] (by decide +kernel) (by decide +kernel)
set_option maxRecDepth 20000 in
theorem gX4_comes_X4_copies : GoodIn wsX4_comes (va_wsS RX4 129 yX4_copies wsX4_copies) := goodIn_app (goodIn_of _ (by decide +kernel)) ggX4_comes_X4_copies
set_option maxRecDepth 20000 in
theorem ggX4_comes_X4_its : GoodIn wsX4_comes wsX4_its := goodIn_r _ [25, 3, 54, 55, 56, 57, 58, 59, 60, 61, 62, 63, 64, 65, 66, 67, 68, 69, 70, 71] (by decide +kernel) (by decide +kernel)
set_option maxRecDepth 20000 in
theorem gX4_comes_X4_its : GoodIn wsX4_comes (wsV RX4 54 RX4 yX4_its wsX4_its) := goodIn_app (goodIn_of _ (by decide +kernel)) ggX4_comes_X4_its
set_option maxRecDepth 20000 in
theorem ggX4_comes_X4_momentGoes : GoodIn wsX4_comes wsX4_momentGoes := goodIn_r _ [29, 3, 30, 31, 32, 33, 8, 34, 22, 23, 24, 25, 35, 36, 37, 38, 5, 6, 7, 9, 10, 11, 12, 39, 40, 41, 42, 43, 44, 45, 46, 47, 48, 49, 50, 51, 52, 53, 54, 55, 56, 57, 58, 59, 60, 61, 62, 63, 64, 65, 66, 67, 68, 69, 70, 71] (by decide +kernel) (by decide +kernel)
set_option maxRecDepth 20000 in
theorem gX4_comes_X4_momentGoes : GoodIn wsX4_comes (wsV RX4 80 RX4 yX4_momentGoes wsX4_momentGoes) := goodIn_app (goodIn_of _ (by decide +kernel)) ggX4_comes_X4_momentGoes
theorem dX4_comes_0 : decode cX4_comes 0 = .ok (.aload_n 0, 1) := by decide +kernel
theorem dX4_comes_1 : decode cX4_comes 1 = .ok (.iload_n 1, 1) := by decide +kernel
theorem dX4_comes_2 : decode cX4_comes 2 = .ok (.invokevirtual 50, 3) := by decide +kernel
theorem dX4_comes_5 : decode cX4_comes 5 = .ok (.ifCond .eq 17, 3) := by decide +kernel
theorem dX4_comes_8 : decode cX4_comes 8 = .ok (.iload_n 2, 1) := by decide +kernel
theorem dX4_comes_9 : decode cX4_comes 9 = .ok (.i2l, 1) := by decide +kernel
theorem dX4_comes_10 : decode cX4_comes 10 = .ok (.ldc2_w 115, 3) := by decide +kernel
theorem dX4_comes_13 : decode cX4_comes 13 = .ok (.ldc2_w 117, 3) := by decide +kernel
theorem dX4_comes_16 : decode cX4_comes 16 = .ok (.invokestatic 46, 3) := by decide +kernel
theorem dX4_comes_19 : decode cX4_comes 19 = .ok (.ifCond .ne 9, 3) := by decide +kernel
theorem dX4_comes_22 : decode cX4_comes 22 = .ok (.aload_n 0, 1) := by decide +kernel
theorem dX4_comes_23 : decode cX4_comes 23 = .ok (.iconst 0, 1) := by decide +kernel
theorem dX4_comes_24 : decode cX4_comes 24 = .ok (.invokevirtual 92, 3) := by decide +kernel
theorem dX4_comes_27 : decode cX4_comes 27 = .ok (.ireturn, 1) := by decide +kernel
theorem dX4_comes_28 : decode cX4_comes 28 = .ok (.aload_n 0, 1) := by decide +kernel
theorem dX4_comes_29 : decode cX4_comes 29 = .ok (.getfield 7, 3) := by decide +kernel
theorem dX4_comes_32 : decode cX4_comes 32 = .ok (.aload_n 0, 1) := by decide +kernel
theorem dX4_comes_33 : decode cX4_comes 33 = .ok (.getfield 16, 3) := by decide +kernel
theorem dX4_comes_36 : decode cX4_comes 36 = .ok (.invokestatic 129, 3) := by decide +kernel
theorem dX4_comes_39 : decode cX4_comes 39 = .ok (.iconst 0, 1) := by decide +kernel
theorem dX4_comes_40 : decode cX4_comes 40 = .ok (.istore_n 3, 1) := by decide +kernel
theorem dX4_comes_41 : decode cX4_comes 41 = .ok (.iload_n 3, 1) := by decide +kernel
theorem dX4_comes_42 : decode cX4_comes 42 = .ok (.sipush 400, 3) := by decide +kernel
theorem dX4_comes_45 : decode cX4_comes 45 = .ok (.if_icmp .ge 23, 3) := by decide +kernel
theorem dX4_comes_48 : decode cX4_comes 48 = .ok (.aload_n 0, 1) := by decide +kernel
theorem dX4_comes_49 : decode cX4_comes 49 = .ok (.iload_n 1, 1) := by decide +kernel
theorem dX4_comes_50 : decode cX4_comes 50 = .ok (.iconst 2, 1) := by decide +kernel
theorem dX4_comes_51 : decode cX4_comes 51 = .ok (.invokevirtual 54, 3) := by decide +kernel
theorem dX4_comes_54 : decode cX4_comes 54 = .ok (.iload_n 2, 1) := by decide +kernel
theorem dX4_comes_55 : decode cX4_comes 55 = .ok (.if_icmp .ge 13, 3) := by decide +kernel
theorem dX4_comes_58 : decode cX4_comes 58 = .ok (.aload_n 0, 1) := by decide +kernel
theorem dX4_comes_59 : decode cX4_comes 59 = .ok (.invokevirtual 80, 3) := by decide +kernel
theorem dX4_comes_62 : decode cX4_comes 62 = .ok (.iinc 3 1, 3) := by decide +kernel
theorem dX4_comes_65 : decode cX4_comes 65 = .ok (.goto (-24), 3) := by decide +kernel
theorem dX4_comes_68 : decode cX4_comes 68 = .ok (.aload_n 0, 1) := by decide +kernel
theorem dX4_comes_69 : decode cX4_comes 69 = .ok (.iload_n 1, 1) := by decide +kernel
theorem dX4_comes_70 : decode cX4_comes 70 = .ok (.iconst 2, 1) := by decide +kernel
theorem dX4_comes_71 : decode cX4_comes 71 = .ok (.invokevirtual 54, 3) := by decide +kernel
theorem dX4_comes_74 : decode cX4_comes 74 = .ok (.iload_n 2, 1) := by decide +kernel
theorem dX4_comes_75 : decode cX4_comes 75 = .ok (.if_icmp .lt 7, 3) := by decide +kernel
theorem dX4_comes_78 : decode cX4_comes 78 = .ok (.iconst 1, 1) := by decide +kernel
theorem dX4_comes_79 : decode cX4_comes 79 = .ok (.goto 4, 3) := by decide +kernel
theorem dX4_comes_82 : decode cX4_comes 82 = .ok (.iconst 0, 1) := by decide +kernel
theorem dX4_comes_83 : decode cX4_comes 83 = .ok (.istore 4, 2) := by decide +kernel
theorem dX4_comes_85 : decode cX4_comes 85 = .ok (.aload_n 0, 1) := by decide +kernel
theorem dX4_comes_86 : decode cX4_comes 86 = .ok (.getfield 16, 3) := by decide +kernel
theorem dX4_comes_89 : decode cX4_comes 89 = .ok (.aload_n 0, 1) := by decide +kernel
theorem dX4_comes_90 : decode cX4_comes 90 = .ok (.getfield 7, 3) := by decide +kernel
theorem dX4_comes_93 : decode cX4_comes 93 = .ok (.invokestatic 129, 3) := by decide +kernel
theorem dX4_comes_96 : decode cX4_comes 96 = .ok (.iload 4, 2) := by decide +kernel
theorem dX4_comes_98 : decode cX4_comes 98 = .ok (.ifCond .eq 7, 3) := by decide +kernel
theorem dX4_comes_101 : decode cX4_comes 101 = .ok (.iload_n 3, 1) := by decide +kernel
theorem dX4_comes_102 : decode cX4_comes 102 = .ok (.goto 8, 3) := by decide +kernel
theorem dX4_comes_105 : decode cX4_comes 105 = .ok (.aload_n 0, 1) := by decide +kernel
theorem dX4_comes_106 : decode cX4_comes 106 = .ok (.iconst 3, 1) := by decide +kernel
theorem dX4_comes_107 : decode cX4_comes 107 = .ok (.invokevirtual 92, 3) := by decide +kernel
theorem dX4_comes_110 : decode cX4_comes 110 = .ok (.ireturn, 1) := by decide +kernel
set_option maxRecDepth 20000 in
theorem ggX4_place_X4_isPerson : GoodIn wsX4_place wsX4_isPerson := goodIn_r _ [7, 1, 8, 9, 6, 10, 72, 73, 74, 75, 76, 77, 78, 79, 80, 81, 82, 83, 84, 85, 86, 87, 88, 89] (by decide +kernel) (by decide +kernel)
set_option maxRecDepth 20000 in
theorem gX4_place_X4_isPerson : GoodIn wsX4_place (wsV RX4 50 RX4 yX4_isPerson wsX4_isPerson) := goodIn_app (goodIn_of _ (by decide +kernel)) ggX4_place_X4_isPerson
set_option maxRecDepth 20000 in
theorem ggX4_place_X4_isShort : GoodIn wsX4_place wsX4_isShort := goodIn_r _ [13, 14, 8, 9, 6, 10] (by decide +kernel) (by decide +kernel)
set_option maxRecDepth 20000 in
theorem gX4_place_X4_isShort : GoodIn wsX4_place (va_wsS RX4 149 yX4_isShort wsX4_isShort) := goodIn_app (goodIn_of _ (by decide +kernel)) ggX4_place_X4_isShort
set_option maxRecDepth 20000 in
theorem ggX4_place_X4_finds : GoodIn wsX4_place wsX4_finds := goodIn_r _ [18, 19, 20, 72, 73, 74, 75, 76, 77, 78, 79, 80, 81, 82, 83, 84, 85, 86, 87, 88, 89] (by decide +kernel) (by decide +kernel)
set_option maxRecDepth 20000 in
theorem gX4_place_X4_finds : GoodIn wsX4_place (wsV RX4 92 RX4 yX4_finds wsX4_finds) := goodIn_app (goodIn_of _ (by decide +kernel)) ggX4_place_X4_finds
set_option maxRecDepth 20000 in
theorem ggX4_place_X4_copies : GoodIn wsX4_place wsX4_copies := goodIn_r _ [23] (by decide +kernel) (by decide +kernel)
set_option maxRecDepth 20000 in
theorem gX4_place_X4_copies : GoodIn wsX4_place (va_wsS RX4 129 yX4_copies wsX4_copies) := goodIn_app (goodIn_of _ (by decide +kernel)) ggX4_place_X4_copies
set_option maxRecDepth 20000 in
theorem ggX4_place_X4_houseBehind : GoodIn wsX4_place wsX4_houseBehind := goodIn_r _ [27, 2, 1, 28, 29, 30, 6, 31, 32, 33, 34, 35, 36, 37, 38, 39, 40, 41, 42, 43, 44, 45, 46, 47, 48, 3, 4, 5, 7, 8, 9, 10, 49, 50, 51, 52, 53, 54, 55, 56, 57, 58, 59, 60, 61, 62, 63, 64, 65, 66, 67, 21, 22, 23, 72, 73, 74, 75, 76, 77, 78, 79, 80, 81, 82, 83, 84, 85, 86, 87, 88, 89] (by decide +kernel) (by decide +kernel)
set_option maxRecDepth 20000 in
theorem gX4_place_X4_houseBehind : GoodIn wsX4_place (wsV RX4 146 RX4 yX4_houseBehind wsX4_houseBehind) := goodIn_app (goodIn_of _ (by decide +kernel)) ggX4_place_X4_houseBehind
set_option maxRecDepth 20000 in
theorem ggX4_place_X4_swaps : GoodIn wsX4_place wsX4_swaps := goodIn_r _ [71, 41, 42, 43, 6, 44, 1, 56, 57, 58, 59, 72, 73, 74, 75, 76, 77, 78, 79, 80, 81, 82, 83, 84, 85, 86, 87, 88, 89] (by decide +kernel) (by decide +kernel)
set_option maxRecDepth 20000 in
theorem gX4_place_X4_swaps : GoodIn wsX4_place (wsV RX4 119 RX4 yX4_swaps wsX4_swaps) := goodIn_app (goodIn_of _ (by decide +kernel)) ggX4_place_X4_swaps
theorem dX4_place_0 : decode cX4_place 0 = .ok (.aload_n 0, 1) := by decide +kernel
theorem dX4_place_1 : decode cX4_place 1 = .ok (.iload_n 1, 1) := by decide +kernel
theorem dX4_place_2 : decode cX4_place 2 = .ok (.invokevirtual 50, 3) := by decide +kernel
theorem dX4_place_5 : decode cX4_place 5 = .ok (.ifCond .eq 10, 3) := by decide +kernel
theorem dX4_place_8 : decode cX4_place 8 = .ok (.iload_n 2, 1) := by decide +kernel
theorem dX4_place_9 : decode cX4_place 9 = .ok (.invokestatic 149, 3) := by decide +kernel
theorem dX4_place_12 : decode cX4_place 12 = .ok (.ifCond .ne 9, 3) := by decide +kernel
theorem dX4_place_15 : decode cX4_place 15 = .ok (.aload_n 0, 1) := by decide +kernel
theorem dX4_place_16 : decode cX4_place 16 = .ok (.iconst 0, 1) := by decide +kernel
theorem dX4_place_17 : decode cX4_place 17 = .ok (.invokevirtual 92, 3) := by decide +kernel
theorem dX4_place_20 : decode cX4_place 20 = .ok (.ireturn, 1) := by decide +kernel
theorem dX4_place_21 : decode cX4_place 21 = .ok (.aload_n 0, 1) := by decide +kernel
theorem dX4_place_22 : decode cX4_place 22 = .ok (.getfield 7, 3) := by decide +kernel
theorem dX4_place_25 : decode cX4_place 25 = .ok (.aload_n 0, 1) := by decide +kernel
theorem dX4_place_26 : decode cX4_place 26 = .ok (.getfield 16, 3) := by decide +kernel
theorem dX4_place_29 : decode cX4_place 29 = .ok (.invokestatic 129, 3) := by decide +kernel
theorem dX4_place_32 : decode cX4_place 32 = .ok (.iconst (-1), 1) := by decide +kernel
theorem dX4_place_33 : decode cX4_place 33 = .ok (.istore_n 3, 1) := by decide +kernel
theorem dX4_place_34 : decode cX4_place 34 = .ok (.aload_n 0, 1) := by decide +kernel
theorem dX4_place_35 : decode cX4_place 35 = .ok (.iload_n 2, 1) := by decide +kernel
theorem dX4_place_36 : decode cX4_place 36 = .ok (.invokevirtual 146, 3) := by decide +kernel
theorem dX4_place_39 : decode cX4_place 39 = .ok (.istore 4, 2) := by decide +kernel
theorem dX4_place_41 : decode cX4_place 41 = .ok (.iconst 0, 1) := by decide +kernel
theorem dX4_place_42 : decode cX4_place 42 = .ok (.istore 5, 2) := by decide +kernel
theorem dX4_place_44 : decode cX4_place 44 = .ok (.iload 5, 2) := by decide +kernel
theorem dX4_place_46 : decode cX4_place 46 = .ok (.aload_n 0, 1) := by decide +kernel
theorem dX4_place_47 : decode cX4_place 47 = .ok (.getfield 7, 3) := by decide +kernel
theorem dX4_place_50 : decode cX4_place 50 = .ok (.iconst 0, 1) := by decide +kernel
theorem dX4_place_51 : decode cX4_place 51 = .ok (.iaload, 1) := by decide +kernel
theorem dX4_place_52 : decode cX4_place 52 = .ok (.if_icmp .ge 43, 3) := by decide +kernel
theorem dX4_place_55 : decode cX4_place 55 = .ok (.iload 5, 2) := by decide +kernel
theorem dX4_place_57 : decode cX4_place 57 = .ok (.iload_n 1, 1) := by decide +kernel
theorem dX4_place_58 : decode cX4_place 58 = .ok (.if_icmp .eq 31, 3) := by decide +kernel
theorem dX4_place_61 : decode cX4_place 61 = .ok (.aload_n 0, 1) := by decide +kernel
theorem dX4_place_62 : decode cX4_place 62 = .ok (.iload_n 1, 1) := by decide +kernel
theorem dX4_place_63 : decode cX4_place 63 = .ok (.iload 5, 2) := by decide +kernel
theorem dX4_place_65 : decode cX4_place 65 = .ok (.invokevirtual 119, 3) := by decide +kernel
theorem dX4_place_68 : decode cX4_place 68 = .ok (.aload_n 0, 1) := by decide +kernel
theorem dX4_place_69 : decode cX4_place 69 = .ok (.iload_n 2, 1) := by decide +kernel
theorem dX4_place_70 : decode cX4_place 70 = .ok (.invokevirtual 146, 3) := by decide +kernel
theorem dX4_place_73 : decode cX4_place 73 = .ok (.istore 6, 2) := by decide +kernel
theorem dX4_place_75 : decode cX4_place 75 = .ok (.iload 6, 2) := by decide +kernel
theorem dX4_place_77 : decode cX4_place 77 = .ok (.iload 4, 2) := by decide +kernel
theorem dX4_place_79 : decode cX4_place 79 = .ok (.if_icmp .le 10, 3) := by decide +kernel
theorem dX4_place_82 : decode cX4_place 82 = .ok (.iload 5, 2) := by decide +kernel
theorem dX4_place_84 : decode cX4_place 84 = .ok (.istore_n 3, 1) := by decide +kernel
theorem dX4_place_85 : decode cX4_place 85 = .ok (.iload 6, 2) := by decide +kernel
theorem dX4_place_87 : decode cX4_place 87 = .ok (.istore 4, 2) := by decide +kernel
theorem dX4_place_89 : decode cX4_place 89 = .ok (.iinc 5 1, 3) := by decide +kernel
theorem dX4_place_92 : decode cX4_place 92 = .ok (.goto (-48), 3) := by decide +kernel
theorem dX4_place_95 : decode cX4_place 95 = .ok (.iload_n 3, 1) := by decide +kernel
theorem dX4_place_96 : decode cX4_place 96 = .ok (.ifCond .ge 11, 3) := by decide +kernel
theorem dX4_place_99 : decode cX4_place 99 = .ok (.aload_n 0, 1) := by decide +kernel
theorem dX4_place_100 : decode cX4_place 100 = .ok (.iconst 3, 1) := by decide +kernel
theorem dX4_place_101 : decode cX4_place 101 = .ok (.invokevirtual 92, 3) := by decide +kernel
theorem dX4_place_104 : decode cX4_place 104 = .ok (.goto 4, 3) := by decide +kernel
theorem dX4_place_107 : decode cX4_place 107 = .ok (.iload_n 3, 1) := by decide +kernel
theorem dX4_place_108 : decode cX4_place 108 = .ok (.ireturn, 1) := by decide +kernel
set_option maxRecDepth 20000 in
theorem ggX4_kind_X4_isPerson : GoodIn wsX4_kind wsX4_isPerson := goodIn_r _ [7, 1, 8, 9, 6, 10, 68, 69, 70, 71, 72, 73, 74, 75, 76, 77, 78, 79, 80, 81, 82, 83, 84, 85] (by decide +kernel) (by decide +kernel)
set_option maxRecDepth 20000 in
theorem gX4_kind_X4_isPerson : GoodIn wsX4_kind (wsV RX4 50 RX4 yX4_isPerson wsX4_isPerson) := goodIn_app (goodIn_of _ (by decide +kernel)) ggX4_kind_X4_isPerson
set_option maxRecDepth 20000 in
theorem ggX4_kind_X4_isShort : GoodIn wsX4_kind wsX4_isShort := goodIn_r _ [13, 14, 8, 9, 6, 10] (by decide +kernel) (by decide +kernel)
set_option maxRecDepth 20000 in
theorem gX4_kind_X4_isShort : GoodIn wsX4_kind (va_wsS RX4 149 yX4_isShort wsX4_isShort) := goodIn_app (goodIn_of _ (by decide +kernel)) ggX4_kind_X4_isShort
set_option maxRecDepth 20000 in
theorem ggX4_kind_X4_finds : GoodIn wsX4_kind wsX4_finds := goodIn_r _ [18, 19, 20, 68, 69, 70, 71, 72, 73, 74, 75, 76, 77, 78, 79, 80, 81, 82, 83, 84, 85] (by decide +kernel) (by decide +kernel)
set_option maxRecDepth 20000 in
theorem gX4_kind_X4_finds : GoodIn wsX4_kind (wsV RX4 92 RX4 yX4_finds wsX4_finds) := goodIn_app (goodIn_of _ (by decide +kernel)) ggX4_kind_X4_finds
set_option maxRecDepth 20000 in
theorem ggX4_kind_X4_copies : GoodIn wsX4_kind wsX4_copies := goodIn_r _ [23] (by decide +kernel) (by decide +kernel)
set_option maxRecDepth 20000 in
theorem gX4_kind_X4_copies : GoodIn wsX4_kind (va_wsS RX4 129 yX4_copies wsX4_copies) := goodIn_app (goodIn_of _ (by decide +kernel)) ggX4_kind_X4_copies
set_option maxRecDepth 20000 in
theorem ggX4_kind_X4_sets : GoodIn wsX4_kind wsX4_sets := goodIn_r _ [27, 1, 68, 69, 70, 71, 72, 73, 74, 75, 76, 77, 78, 79, 80, 81, 82, 83, 84, 85] (by decide +kernel) (by decide +kernel)
set_option maxRecDepth 20000 in
theorem gX4_kind_X4_sets : GoodIn wsX4_kind (wsV RX4 73 RX4 yX4_sets wsX4_sets) := goodIn_app (goodIn_of _ (by decide +kernel)) ggX4_kind_X4_sets
set_option maxRecDepth 20000 in
theorem ggX4_kind_X4_whereNote : GoodIn wsX4_kind wsX4_whereNote := goodIn_r _ [31] (by decide +kernel) (by decide +kernel)
set_option maxRecDepth 20000 in
theorem gX4_kind_X4_whereNote : GoodIn wsX4_kind (wsV RX4 140 RX4 yX4_whereNote wsX4_whereNote) := goodIn_app (goodIn_of _ (by decide +kernel)) ggX4_kind_X4_whereNote
set_option maxRecDepth 20000 in
theorem ggX4_kind_X4_behind : GoodIn wsX4_kind wsX4_behind := goodIn_r _ [35, 1, 2, 36, 37, 38, 6, 39, 40, 41, 42, 43, 44, 45, 46, 47, 48, 49, 50, 51, 52, 53, 54, 55, 56, 3, 4, 5, 7, 8, 9, 10, 57, 58, 59, 60, 61, 62, 63, 24, 25, 26, 27, 64, 65, 66, 67, 21, 22, 23, 68, 69, 70, 71, 72, 73, 74, 75, 76, 77, 78, 79, 80, 81, 82, 83, 84, 85] (by decide +kernel) (by decide +kernel)
set_option maxRecDepth 20000 in
theorem gX4_kind_X4_behind : GoodIn wsX4_kind (wsV RX4 143 RX4 yX4_behind wsX4_behind) := goodIn_app (goodIn_of _ (by decide +kernel)) ggX4_kind_X4_behind
theorem dX4_kind_0 : decode cX4_kind 0 = .ok (.aload_n 0, 1) := by decide +kernel
theorem dX4_kind_1 : decode cX4_kind 1 = .ok (.iload_n 1, 1) := by decide +kernel
theorem dX4_kind_2 : decode cX4_kind 2 = .ok (.invokevirtual 50, 3) := by decide +kernel
theorem dX4_kind_5 : decode cX4_kind 5 = .ok (.ifCond .eq 10, 3) := by decide +kernel
theorem dX4_kind_8 : decode cX4_kind 8 = .ok (.iload_n 2, 1) := by decide +kernel
theorem dX4_kind_9 : decode cX4_kind 9 = .ok (.invokestatic 149, 3) := by decide +kernel
theorem dX4_kind_12 : decode cX4_kind 12 = .ok (.ifCond .ne 9, 3) := by decide +kernel
theorem dX4_kind_15 : decode cX4_kind 15 = .ok (.aload_n 0, 1) := by decide +kernel
theorem dX4_kind_16 : decode cX4_kind 16 = .ok (.iconst 0, 1) := by decide +kernel
theorem dX4_kind_17 : decode cX4_kind 17 = .ok (.invokevirtual 92, 3) := by decide +kernel
theorem dX4_kind_20 : decode cX4_kind 20 = .ok (.ireturn, 1) := by decide +kernel
theorem dX4_kind_21 : decode cX4_kind 21 = .ok (.aload_n 0, 1) := by decide +kernel
theorem dX4_kind_22 : decode cX4_kind 22 = .ok (.getfield 7, 3) := by decide +kernel
theorem dX4_kind_25 : decode cX4_kind 25 = .ok (.aload_n 0, 1) := by decide +kernel
theorem dX4_kind_26 : decode cX4_kind 26 = .ok (.getfield 16, 3) := by decide +kernel
theorem dX4_kind_29 : decode cX4_kind 29 = .ok (.invokestatic 129, 3) := by decide +kernel
theorem dX4_kind_32 : decode cX4_kind 32 = .ok (.iconst 0, 1) := by decide +kernel
theorem dX4_kind_33 : decode cX4_kind 33 = .ok (.istore_n 3, 1) := by decide +kernel
theorem dX4_kind_34 : decode cX4_kind 34 = .ok (.sipush (-10000), 3) := by decide +kernel
theorem dX4_kind_37 : decode cX4_kind 37 = .ok (.istore 4, 2) := by decide +kernel
theorem dX4_kind_39 : decode cX4_kind 39 = .ok (.iconst 0, 1) := by decide +kernel
theorem dX4_kind_40 : decode cX4_kind 40 = .ok (.istore 5, 2) := by decide +kernel
theorem dX4_kind_42 : decode cX4_kind 42 = .ok (.iload 5, 2) := by decide +kernel
theorem dX4_kind_44 : decode cX4_kind 44 = .ok (.bipush 6, 2) := by decide +kernel
theorem dX4_kind_46 : decode cX4_kind 46 = .ok (.if_icmp .ge 43, 3) := by decide +kernel
theorem dX4_kind_49 : decode cX4_kind 49 = .ok (.aload_n 0, 1) := by decide +kernel
theorem dX4_kind_50 : decode cX4_kind 50 = .ok (.iload_n 1, 1) := by decide +kernel
theorem dX4_kind_51 : decode cX4_kind 51 = .ok (.iconst 0, 1) := by decide +kernel
theorem dX4_kind_52 : decode cX4_kind 52 = .ok (.iload 5, 2) := by decide +kernel
theorem dX4_kind_54 : decode cX4_kind 54 = .ok (.invokevirtual 73, 3) := by decide +kernel
theorem dX4_kind_57 : decode cX4_kind 57 = .ok (.aload_n 0, 1) := by decide +kernel
theorem dX4_kind_58 : decode cX4_kind 58 = .ok (.iload_n 2, 1) := by decide +kernel
theorem dX4_kind_59 : decode cX4_kind 59 = .ok (.aload_n 0, 1) := by decide +kernel
theorem dX4_kind_60 : decode cX4_kind 60 = .ok (.iload_n 1, 1) := by decide +kernel
theorem dX4_kind_61 : decode cX4_kind 61 = .ok (.invokevirtual 140, 3) := by decide +kernel
theorem dX4_kind_64 : decode cX4_kind 64 = .ok (.invokevirtual 143, 3) := by decide +kernel
theorem dX4_kind_67 : decode cX4_kind 67 = .ok (.istore 6, 2) := by decide +kernel
theorem dX4_kind_69 : decode cX4_kind 69 = .ok (.iload 6, 2) := by decide +kernel
theorem dX4_kind_71 : decode cX4_kind 71 = .ok (.iload 4, 2) := by decide +kernel
theorem dX4_kind_73 : decode cX4_kind 73 = .ok (.if_icmp .le 10, 3) := by decide +kernel
theorem dX4_kind_76 : decode cX4_kind 76 = .ok (.iload 5, 2) := by decide +kernel
theorem dX4_kind_78 : decode cX4_kind 78 = .ok (.istore_n 3, 1) := by decide +kernel
theorem dX4_kind_79 : decode cX4_kind 79 = .ok (.iload 6, 2) := by decide +kernel
theorem dX4_kind_81 : decode cX4_kind 81 = .ok (.istore 4, 2) := by decide +kernel
theorem dX4_kind_83 : decode cX4_kind 83 = .ok (.iinc 5 1, 3) := by decide +kernel
theorem dX4_kind_86 : decode cX4_kind 86 = .ok (.goto (-44), 3) := by decide +kernel
theorem dX4_kind_89 : decode cX4_kind 89 = .ok (.iload_n 3, 1) := by decide +kernel
theorem dX4_kind_90 : decode cX4_kind 90 = .ok (.ireturn, 1) := by decide +kernel
set_option maxRecDepth 20000 in
theorem ggX4_fresh_X4_isPerson : GoodIn wsX4_fresh wsX4_isPerson := goodIn_r _ [9, 3, 10, 11, 8, 12, 70, 71, 72, 73, 74, 75, 76, 77, 78, 79, 80, 81, 82, 83, 84, 85, 86, 87] (by decide +kernel) (by decide +kernel)
set_option maxRecDepth 20000 in
theorem gX4_fresh_X4_isPerson : GoodIn wsX4_fresh (wsV RX4 50 RX4 yX4_isPerson wsX4_isPerson) := goodIn_app (goodIn_of _ (by decide +kernel)) ggX4_fresh_X4_isPerson
set_option maxRecDepth 20000 in
theorem ggX4_fresh_X4_isShort : GoodIn wsX4_fresh wsX4_isShort := goodIn_r _ [15, 16, 10, 11, 8, 12] (by decide +kernel) (by decide +kernel)
set_option maxRecDepth 20000 in
theorem gX4_fresh_X4_isShort : GoodIn wsX4_fresh (va_wsS RX4 149 yX4_isShort wsX4_isShort) := goodIn_app (goodIn_of _ (by decide +kernel)) ggX4_fresh_X4_isShort
set_option maxRecDepth 20000 in
theorem ggX4_fresh_X4_in : GoodIn wsX4_fresh wsX4_in := goodIn_r _ [12] (by decide +kernel) (by decide +kernel)
set_option maxRecDepth 20000 in
theorem gX4_fresh_X4_in : GoodIn wsX4_fresh (va_wsS RX4 46 yX4_in wsX4_in) := goodIn_app (goodIn_of _ (by decide +kernel)) ggX4_fresh_X4_in
set_option maxRecDepth 20000 in
theorem ggX4_fresh_X4_finds : GoodIn wsX4_fresh wsX4_finds := goodIn_r _ [20, 21, 22, 70, 71, 72, 73, 74, 75, 76, 77, 78, 79, 80, 81, 82, 83, 84, 85, 86, 87] (by decide +kernel) (by decide +kernel)
set_option maxRecDepth 20000 in
theorem gX4_fresh_X4_finds : GoodIn wsX4_fresh (wsV RX4 92 RX4 yX4_finds wsX4_finds) := goodIn_app (goodIn_of _ (by decide +kernel)) ggX4_fresh_X4_finds
set_option maxRecDepth 20000 in
theorem ggX4_fresh_X4_copies : GoodIn wsX4_fresh wsX4_copies := goodIn_r _ [25] (by decide +kernel) (by decide +kernel)
set_option maxRecDepth 20000 in
theorem gX4_fresh_X4_copies : GoodIn wsX4_fresh (va_wsS RX4 129 yX4_copies wsX4_copies) := goodIn_app (goodIn_of _ (by decide +kernel)) ggX4_fresh_X4_copies
set_option maxRecDepth 20000 in
theorem ggX4_fresh_X4_sets : GoodIn wsX4_fresh wsX4_sets := goodIn_r _ [29, 3, 70, 71, 72, 73, 74, 75, 76, 77, 78, 79, 80, 81, 82, 83, 84, 85, 86, 87] (by decide +kernel) (by decide +kernel)
set_option maxRecDepth 20000 in
theorem gX4_fresh_X4_sets : GoodIn wsX4_fresh (wsV RX4 73 RX4 yX4_sets wsX4_sets) := goodIn_app (goodIn_of _ (by decide +kernel)) ggX4_fresh_X4_sets
set_option maxRecDepth 20000 in
theorem ggX4_fresh_X4_whereNote : GoodIn wsX4_fresh wsX4_whereNote := goodIn_r _ [33] (by decide +kernel) (by decide +kernel)
set_option maxRecDepth 20000 in
theorem gX4_fresh_X4_whereNote : GoodIn wsX4_fresh (wsV RX4 140 RX4 yX4_whereNote wsX4_whereNote) := goodIn_app (goodIn_of _ (by decide +kernel)) ggX4_fresh_X4_whereNote
set_option maxRecDepth 20000 in
theorem ggX4_fresh_X4_behind : GoodIn wsX4_fresh wsX4_behind := goodIn_r _ [37, 3, 4, 38, 39, 40, 8, 41, 42, 43, 44, 45, 46, 47, 48, 49, 50, 51, 52, 53, 54, 55, 56, 57, 58, 5, 6, 7, 9, 10, 11, 12, 59, 60, 61, 62, 63, 64, 65, 26, 27, 28, 29, 66, 67, 68, 69, 23, 24, 25, 70, 71, 72, 73, 74, 75, 76, 77, 78, 79, 80, 81, 82, 83, 84, 85, 86, 87] (by decide +kernel) (by decide +kernel)
set_option maxRecDepth 20000 in
theorem gX4_fresh_X4_behind : GoodIn wsX4_fresh (wsV RX4 143 RX4 yX4_behind wsX4_behind) := goodIn_app (goodIn_of _ (by decide +kernel)) ggX4_fresh_X4_behind
theorem dX4_fresh_0 : decode cX4_fresh 0 = .ok (.aload_n 0, 1) := by decide +kernel
theorem dX4_fresh_1 : decode cX4_fresh 1 = .ok (.iload_n 1, 1) := by decide +kernel
theorem dX4_fresh_2 : decode cX4_fresh 2 = .ok (.invokevirtual 50, 3) := by decide +kernel
theorem dX4_fresh_5 : decode cX4_fresh 5 = .ok (.ifCond .eq 24, 3) := by decide +kernel
theorem dX4_fresh_8 : decode cX4_fresh 8 = .ok (.iload_n 2, 1) := by decide +kernel
theorem dX4_fresh_9 : decode cX4_fresh 9 = .ok (.invokestatic 149, 3) := by decide +kernel
theorem dX4_fresh_12 : decode cX4_fresh 12 = .ok (.ifCond .eq 17, 3) := by decide +kernel
theorem dX4_fresh_15 : decode cX4_fresh 15 = .ok (.iload_n 3, 1) := by decide +kernel
theorem dX4_fresh_16 : decode cX4_fresh 16 = .ok (.i2l, 1) := by decide +kernel
theorem dX4_fresh_17 : decode cX4_fresh 17 = .ok (.ldc2_w 115, 3) := by decide +kernel
theorem dX4_fresh_20 : decode cX4_fresh 20 = .ok (.ldc2_w 117, 3) := by decide +kernel
theorem dX4_fresh_23 : decode cX4_fresh 23 = .ok (.invokestatic 46, 3) := by decide +kernel
theorem dX4_fresh_26 : decode cX4_fresh 26 = .ok (.ifCond .ne 9, 3) := by decide +kernel
theorem dX4_fresh_29 : decode cX4_fresh 29 = .ok (.aload_n 0, 1) := by decide +kernel
theorem dX4_fresh_30 : decode cX4_fresh 30 = .ok (.iconst 0, 1) := by decide +kernel
theorem dX4_fresh_31 : decode cX4_fresh 31 = .ok (.invokevirtual 92, 3) := by decide +kernel
theorem dX4_fresh_34 : decode cX4_fresh 34 = .ok (.ireturn, 1) := by decide +kernel
theorem dX4_fresh_35 : decode cX4_fresh 35 = .ok (.aload_n 0, 1) := by decide +kernel
theorem dX4_fresh_36 : decode cX4_fresh 36 = .ok (.getfield 7, 3) := by decide +kernel
theorem dX4_fresh_39 : decode cX4_fresh 39 = .ok (.aload_n 0, 1) := by decide +kernel
theorem dX4_fresh_40 : decode cX4_fresh 40 = .ok (.getfield 16, 3) := by decide +kernel
theorem dX4_fresh_43 : decode cX4_fresh 43 = .ok (.invokestatic 129, 3) := by decide +kernel
theorem dX4_fresh_46 : decode cX4_fresh 46 = .ok (.iconst 0, 1) := by decide +kernel
theorem dX4_fresh_47 : decode cX4_fresh 47 = .ok (.istore 4, 2) := by decide +kernel
theorem dX4_fresh_49 : decode cX4_fresh 49 = .ok (.iload 4, 2) := by decide +kernel
theorem dX4_fresh_51 : decode cX4_fresh 51 = .ok (.bipush 99, 2) := by decide +kernel
theorem dX4_fresh_53 : decode cX4_fresh 53 = .ok (.if_icmp .gt 34, 3) := by decide +kernel
theorem dX4_fresh_56 : decode cX4_fresh 56 = .ok (.aload_n 0, 1) := by decide +kernel
theorem dX4_fresh_57 : decode cX4_fresh 57 = .ok (.iload_n 1, 1) := by decide +kernel
theorem dX4_fresh_58 : decode cX4_fresh 58 = .ok (.iconst 1, 1) := by decide +kernel
theorem dX4_fresh_59 : decode cX4_fresh 59 = .ok (.iload 4, 2) := by decide +kernel
theorem dX4_fresh_61 : decode cX4_fresh 61 = .ok (.invokevirtual 73, 3) := by decide +kernel
theorem dX4_fresh_64 : decode cX4_fresh 64 = .ok (.aload_n 0, 1) := by decide +kernel
theorem dX4_fresh_65 : decode cX4_fresh 65 = .ok (.iload_n 2, 1) := by decide +kernel
theorem dX4_fresh_66 : decode cX4_fresh 66 = .ok (.aload_n 0, 1) := by decide +kernel
theorem dX4_fresh_67 : decode cX4_fresh 67 = .ok (.iload_n 1, 1) := by decide +kernel
theorem dX4_fresh_68 : decode cX4_fresh 68 = .ok (.invokevirtual 140, 3) := by decide +kernel
theorem dX4_fresh_71 : decode cX4_fresh 71 = .ok (.invokevirtual 143, 3) := by decide +kernel
theorem dX4_fresh_74 : decode cX4_fresh 74 = .ok (.iload_n 3, 1) := by decide +kernel
theorem dX4_fresh_75 : decode cX4_fresh 75 = .ok (.if_icmp .lt 6, 3) := by decide +kernel
theorem dX4_fresh_78 : decode cX4_fresh 78 = .ok (.iload 4, 2) := by decide +kernel
theorem dX4_fresh_80 : decode cX4_fresh 80 = .ok (.ireturn, 1) := by decide +kernel
theorem dX4_fresh_81 : decode cX4_fresh 81 = .ok (.iinc 4 1, 3) := by decide +kernel
theorem dX4_fresh_84 : decode cX4_fresh 84 = .ok (.goto (-35), 3) := by decide +kernel
theorem dX4_fresh_87 : decode cX4_fresh 87 = .ok (.aload_n 0, 1) := by decide +kernel
theorem dX4_fresh_88 : decode cX4_fresh 88 = .ok (.iconst 3, 1) := by decide +kernel
theorem dX4_fresh_89 : decode cX4_fresh 89 = .ok (.invokevirtual 92, 3) := by decide +kernel
theorem dX4_fresh_92 : decode cX4_fresh 92 = .ok (.ireturn, 1) := by decide +kernel
set_option maxRecDepth 20000 in
theorem ggX4_cue_X4_in : GoodIn wsX4_cue wsX4_in := goodIn_r _ [8] (by decide +kernel) (by decide +kernel)
set_option maxRecDepth 20000 in
theorem gX4_cue_X4_in : GoodIn wsX4_cue (va_wsS RX4 46 yX4_in wsX4_in) := goodIn_app (goodIn_of _ (by decide +kernel)) ggX4_cue_X4_in
set_option maxRecDepth 20000 in
theorem ggX4_cue_X4_finds : GoodIn wsX4_cue wsX4_finds := goodIn_r _ [12, 13, 14, 66, 67, 68, 69, 70, 71, 72, 73, 74, 75, 76, 77, 78, 79, 80, 81, 82, 83] (by decide +kernel) (by decide +kernel)
set_option maxRecDepth 20000 in
theorem gX4_cue_X4_finds : GoodIn wsX4_cue (wsV RX4 92 RX4 yX4_finds wsX4_finds) := goodIn_app (goodIn_of _ (by decide +kernel)) ggX4_cue_X4_finds
set_option maxRecDepth 20000 in
theorem ggX4_cue_X4_copies : GoodIn wsX4_cue wsX4_copies := goodIn_r _ [17] (by decide +kernel) (by decide +kernel)
set_option maxRecDepth 20000 in
theorem gX4_cue_X4_copies : GoodIn wsX4_cue (va_wsS RX4 129 yX4_copies wsX4_copies) := goodIn_app (goodIn_of _ (by decide +kernel)) ggX4_cue_X4_copies
set_option maxRecDepth 20000 in
theorem ggX4_cue_X4_houseBehind : GoodIn wsX4_cue wsX4_houseBehind := goodIn_r _ [21, 3, 2, 22, 23, 24, 7, 25, 26, 27, 28, 29, 30, 31, 32, 33, 34, 35, 36, 37, 38, 39, 40, 41, 42, 43, 44, 45, 46, 5, 6, 8, 47, 48, 49, 50, 51, 52, 53, 54, 55, 56, 57, 58, 59, 60, 61, 62, 63, 64, 65, 15, 16, 17, 66, 67, 68, 69, 70, 71, 72, 73, 74, 75, 76, 77, 78, 79, 80, 81, 82, 83] (by decide +kernel) (by decide +kernel)
set_option maxRecDepth 20000 in
theorem gX4_cue_X4_houseBehind : GoodIn wsX4_cue (wsV RX4 146 RX4 yX4_houseBehind wsX4_houseBehind) := goodIn_app (goodIn_of _ (by decide +kernel)) ggX4_cue_X4_houseBehind
theorem dX4_cue_0 : decode cX4_cue 0 = .ok (.iload_n 1, 1) := by decide +kernel
theorem dX4_cue_1 : decode cX4_cue 1 = .ok (.i2l, 1) := by decide +kernel
theorem dX4_cue_2 : decode cX4_cue 2 = .ok (.lconst 1, 1) := by decide +kernel
theorem dX4_cue_3 : decode cX4_cue 3 = .ok (.ldc2_w 152, 3) := by decide +kernel
theorem dX4_cue_6 : decode cX4_cue 6 = .ok (.invokestatic 46, 3) := by decide +kernel
theorem dX4_cue_9 : decode cX4_cue 9 = .ok (.ifCond .ne 9, 3) := by decide +kernel
theorem dX4_cue_12 : decode cX4_cue 12 = .ok (.aload_n 0, 1) := by decide +kernel
theorem dX4_cue_13 : decode cX4_cue 13 = .ok (.iconst 0, 1) := by decide +kernel
theorem dX4_cue_14 : decode cX4_cue 14 = .ok (.invokevirtual 92, 3) := by decide +kernel
theorem dX4_cue_17 : decode cX4_cue 17 = .ok (.ireturn, 1) := by decide +kernel
theorem dX4_cue_18 : decode cX4_cue 18 = .ok (.aload_n 0, 1) := by decide +kernel
theorem dX4_cue_19 : decode cX4_cue 19 = .ok (.getfield 7, 3) := by decide +kernel
theorem dX4_cue_22 : decode cX4_cue 22 = .ok (.aload_n 0, 1) := by decide +kernel
theorem dX4_cue_23 : decode cX4_cue 23 = .ok (.getfield 16, 3) := by decide +kernel
theorem dX4_cue_26 : decode cX4_cue 26 = .ok (.invokestatic 129, 3) := by decide +kernel
theorem dX4_cue_29 : decode cX4_cue 29 = .ok (.iconst 0, 1) := by decide +kernel
theorem dX4_cue_30 : decode cX4_cue 30 = .ok (.istore_n 2, 1) := by decide +kernel
theorem dX4_cue_31 : decode cX4_cue 31 = .ok (.ldc 154, 2) := by decide +kernel
theorem dX4_cue_33 : decode cX4_cue 33 = .ok (.istore_n 3, 1) := by decide +kernel
theorem dX4_cue_34 : decode cX4_cue 34 = .ok (.iconst 0, 1) := by decide +kernel
theorem dX4_cue_35 : decode cX4_cue 35 = .ok (.istore 4, 2) := by decide +kernel
theorem dX4_cue_37 : decode cX4_cue 37 = .ok (.iload 4, 2) := by decide +kernel
theorem dX4_cue_39 : decode cX4_cue 39 = .ok (.bipush 80, 2) := by decide +kernel
theorem dX4_cue_41 : decode cX4_cue 41 = .ok (.if_icmp .ge 45, 3) := by decide +kernel
theorem dX4_cue_44 : decode cX4_cue 44 = .ok (.aload_n 0, 1) := by decide +kernel
theorem dX4_cue_45 : decode cX4_cue 45 = .ok (.getfield 7, 3) := by decide +kernel
theorem dX4_cue_48 : decode cX4_cue 48 = .ok (.iconst 3, 1) := by decide +kernel
theorem dX4_cue_49 : decode cX4_cue 49 = .ok (.iload 4, 2) := by decide +kernel
theorem dX4_cue_51 : decode cX4_cue 51 = .ok (.bipush 16, 2) := by decide +kernel
theorem dX4_cue_53 : decode cX4_cue 53 = .ok (.irem, 1) := by decide +kernel
theorem dX4_cue_54 : decode cX4_cue 54 = .ok (.iadd, 1) := by decide +kernel
theorem dX4_cue_55 : decode cX4_cue 55 = .ok (.iload 4, 2) := by decide +kernel
theorem dX4_cue_57 : decode cX4_cue 57 = .ok (.bipush 16, 2) := by decide +kernel
theorem dX4_cue_59 : decode cX4_cue 59 = .ok (.idiv, 1) := by decide +kernel
theorem dX4_cue_60 : decode cX4_cue 60 = .ok (.iastore, 1) := by decide +kernel
theorem dX4_cue_61 : decode cX4_cue 61 = .ok (.aload_n 0, 1) := by decide +kernel
theorem dX4_cue_62 : decode cX4_cue 62 = .ok (.iload_n 1, 1) := by decide +kernel
theorem dX4_cue_63 : decode cX4_cue 63 = .ok (.invokevirtual 146, 3) := by decide +kernel
theorem dX4_cue_66 : decode cX4_cue 66 = .ok (.istore 5, 2) := by decide +kernel
theorem dX4_cue_68 : decode cX4_cue 68 = .ok (.iload 5, 2) := by decide +kernel
theorem dX4_cue_70 : decode cX4_cue 70 = .ok (.iload_n 3, 1) := by decide +kernel
theorem dX4_cue_71 : decode cX4_cue 71 = .ok (.if_icmp .le 9, 3) := by decide +kernel
theorem dX4_cue_74 : decode cX4_cue 74 = .ok (.iload 4, 2) := by decide +kernel
theorem dX4_cue_76 : decode cX4_cue 76 = .ok (.istore_n 2, 1) := by decide +kernel
theorem dX4_cue_77 : decode cX4_cue 77 = .ok (.iload 5, 2) := by decide +kernel
theorem dX4_cue_79 : decode cX4_cue 79 = .ok (.istore_n 3, 1) := by decide +kernel
theorem dX4_cue_80 : decode cX4_cue 80 = .ok (.iinc 4 1, 3) := by decide +kernel
theorem dX4_cue_83 : decode cX4_cue 83 = .ok (.goto (-46), 3) := by decide +kernel
theorem dX4_cue_86 : decode cX4_cue 86 = .ok (.iload_n 2, 1) := by decide +kernel
theorem dX4_cue_87 : decode cX4_cue 87 = .ok (.ireturn, 1) := by decide +kernel
set_option maxRecDepth 20000 in
theorem ggX4_doze_X4_isShort : GoodIn wsX4_doze wsX4_isShort := goodIn_r _ [7, 8, 9, 10, 6, 11] (by decide +kernel) (by decide +kernel)
set_option maxRecDepth 20000 in
theorem gX4_doze_X4_isShort : GoodIn wsX4_doze (va_wsS RX4 149 yX4_isShort wsX4_isShort) := goodIn_app (goodIn_of _ (by decide +kernel)) ggX4_doze_X4_isShort
set_option maxRecDepth 20000 in
theorem ggX4_doze_X4_finds : GoodIn wsX4_doze wsX4_finds := goodIn_r _ [15, 16, 17, 69, 70, 71, 72, 73, 74, 75, 76, 77, 78, 79, 80, 81, 82, 83, 84, 85, 86] (by decide +kernel) (by decide +kernel)
set_option maxRecDepth 20000 in
theorem gX4_doze_X4_finds : GoodIn wsX4_doze (wsV RX4 92 RX4 yX4_finds wsX4_finds) := goodIn_app (goodIn_of _ (by decide +kernel)) ggX4_doze_X4_finds
set_option maxRecDepth 20000 in
theorem ggX4_doze_X4_copies : GoodIn wsX4_doze wsX4_copies := goodIn_r _ [20] (by decide +kernel) (by decide +kernel)
set_option maxRecDepth 20000 in
theorem gX4_doze_X4_copies : GoodIn wsX4_doze (va_wsS RX4 129 yX4_copies wsX4_copies) := goodIn_app (goodIn_of _ (by decide +kernel)) ggX4_doze_X4_copies
set_option maxRecDepth 20000 in
theorem ggX4_doze_X4_sets : GoodIn wsX4_doze wsX4_sets := goodIn_r _ [24, 1, 69, 70, 71, 72, 73, 74, 75, 76, 77, 78, 79, 80, 81, 82, 83, 84, 85, 86] (by decide +kernel) (by decide +kernel)
set_option maxRecDepth 20000 in
theorem gX4_doze_X4_sets : GoodIn wsX4_doze (wsV RX4 73 RX4 yX4_sets wsX4_sets) := goodIn_app (goodIn_of _ (by decide +kernel)) ggX4_doze_X4_sets
set_option maxRecDepth 20000 in
theorem ggX4_doze_X4_houseBehind : GoodIn wsX4_doze wsX4_houseBehind := goodIn_r _ [28, 2, 1, 29, 30, 31, 6, 32, 33, 34, 35, 36, 37, 38, 39, 40, 41, 42, 43, 44, 45, 46, 47, 48, 49, 50, 51, 52, 53, 9, 10, 11, 54, 55, 56, 57, 58, 59, 60, 21, 22, 23, 24, 61, 62, 63, 64, 65, 66, 67, 68, 18, 19, 20, 69, 70, 71, 72, 73, 74, 75, 76, 77, 78, 79, 80, 81, 82, 83, 84, 85, 86] (by decide +kernel) (by decide +kernel)
set_option maxRecDepth 20000 in
theorem gX4_doze_X4_houseBehind : GoodIn wsX4_doze (wsV RX4 146 RX4 yX4_houseBehind wsX4_houseBehind) := goodIn_app (goodIn_of _ (by decide +kernel)) ggX4_doze_X4_houseBehind
theorem dX4_doze_0 : decode cX4_doze 0 = .ok (.iload_n 1, 1) := by decide +kernel
theorem dX4_doze_1 : decode cX4_doze 1 = .ok (.invokestatic 149, 3) := by decide +kernel
theorem dX4_doze_4 : decode cX4_doze 4 = .ok (.ifCond .ne 9, 3) := by decide +kernel
theorem dX4_doze_7 : decode cX4_doze 7 = .ok (.aload_n 0, 1) := by decide +kernel
theorem dX4_doze_8 : decode cX4_doze 8 = .ok (.iconst 0, 1) := by decide +kernel
theorem dX4_doze_9 : decode cX4_doze 9 = .ok (.invokevirtual 92, 3) := by decide +kernel
theorem dX4_doze_12 : decode cX4_doze 12 = .ok (.ireturn, 1) := by decide +kernel
theorem dX4_doze_13 : decode cX4_doze 13 = .ok (.aload_n 0, 1) := by decide +kernel
theorem dX4_doze_14 : decode cX4_doze 14 = .ok (.getfield 7, 3) := by decide +kernel
theorem dX4_doze_17 : decode cX4_doze 17 = .ok (.aload_n 0, 1) := by decide +kernel
theorem dX4_doze_18 : decode cX4_doze 18 = .ok (.getfield 16, 3) := by decide +kernel
theorem dX4_doze_21 : decode cX4_doze 21 = .ok (.invokestatic 129, 3) := by decide +kernel
theorem dX4_doze_24 : decode cX4_doze 24 = .ok (.iconst (-1), 1) := by decide +kernel
theorem dX4_doze_25 : decode cX4_doze 25 = .ok (.istore_n 2, 1) := by decide +kernel
theorem dX4_doze_26 : decode cX4_doze 26 = .ok (.ldc 155, 2) := by decide +kernel
theorem dX4_doze_28 : decode cX4_doze 28 = .ok (.istore_n 3, 1) := by decide +kernel
theorem dX4_doze_29 : decode cX4_doze 29 = .ok (.iconst 0, 1) := by decide +kernel
theorem dX4_doze_30 : decode cX4_doze 30 = .ok (.istore 4, 2) := by decide +kernel
theorem dX4_doze_32 : decode cX4_doze 32 = .ok (.iload 4, 2) := by decide +kernel
theorem dX4_doze_34 : decode cX4_doze 34 = .ok (.aload_n 0, 1) := by decide +kernel
theorem dX4_doze_35 : decode cX4_doze 35 = .ok (.getfield 7, 3) := by decide +kernel
theorem dX4_doze_38 : decode cX4_doze 38 = .ok (.iconst 0, 1) := by decide +kernel
theorem dX4_doze_39 : decode cX4_doze 39 = .ok (.iaload, 1) := by decide +kernel
theorem dX4_doze_40 : decode cX4_doze 40 = .ok (.if_icmp .ge 36, 3) := by decide +kernel
theorem dX4_doze_43 : decode cX4_doze 43 = .ok (.aload_n 0, 1) := by decide +kernel
theorem dX4_doze_44 : decode cX4_doze 44 = .ok (.iload 4, 2) := by decide +kernel
theorem dX4_doze_46 : decode cX4_doze 46 = .ok (.iconst 0, 1) := by decide +kernel
theorem dX4_doze_47 : decode cX4_doze 47 = .ok (.iconst 3, 1) := by decide +kernel
theorem dX4_doze_48 : decode cX4_doze 48 = .ok (.invokevirtual 73, 3) := by decide +kernel
theorem dX4_doze_51 : decode cX4_doze 51 = .ok (.aload_n 0, 1) := by decide +kernel
theorem dX4_doze_52 : decode cX4_doze 52 = .ok (.iload_n 1, 1) := by decide +kernel
theorem dX4_doze_53 : decode cX4_doze 53 = .ok (.invokevirtual 146, 3) := by decide +kernel
theorem dX4_doze_56 : decode cX4_doze 56 = .ok (.istore 5, 2) := by decide +kernel
theorem dX4_doze_58 : decode cX4_doze 58 = .ok (.iload 5, 2) := by decide +kernel
theorem dX4_doze_60 : decode cX4_doze 60 = .ok (.iload_n 3, 1) := by decide +kernel
theorem dX4_doze_61 : decode cX4_doze 61 = .ok (.if_icmp .ge 9, 3) := by decide +kernel
theorem dX4_doze_64 : decode cX4_doze 64 = .ok (.iload 4, 2) := by decide +kernel
theorem dX4_doze_66 : decode cX4_doze 66 = .ok (.istore_n 2, 1) := by decide +kernel
theorem dX4_doze_67 : decode cX4_doze 67 = .ok (.iload 5, 2) := by decide +kernel
theorem dX4_doze_69 : decode cX4_doze 69 = .ok (.istore_n 3, 1) := by decide +kernel
theorem dX4_doze_70 : decode cX4_doze 70 = .ok (.iinc 4 1, 3) := by decide +kernel
theorem dX4_doze_73 : decode cX4_doze 73 = .ok (.goto (-41), 3) := by decide +kernel
theorem dX4_doze_76 : decode cX4_doze 76 = .ok (.iload_n 2, 1) := by decide +kernel
theorem dX4_doze_77 : decode cX4_doze 77 = .ok (.ifCond .ge 11, 3) := by decide +kernel
theorem dX4_doze_80 : decode cX4_doze 80 = .ok (.aload_n 0, 1) := by decide +kernel
theorem dX4_doze_81 : decode cX4_doze 81 = .ok (.iconst 3, 1) := by decide +kernel
theorem dX4_doze_82 : decode cX4_doze 82 = .ok (.invokevirtual 92, 3) := by decide +kernel
theorem dX4_doze_85 : decode cX4_doze 85 = .ok (.goto 4, 3) := by decide +kernel
theorem dX4_doze_88 : decode cX4_doze 88 = .ok (.iload_n 2, 1) := by decide +kernel
theorem dX4_doze_89 : decode cX4_doze 89 = .ok (.ireturn, 1) := by decide +kernel
set_option maxRecDepth 20000 in
theorem ggX4_tense_X4_isShort : GoodIn wsX4_tense wsX4_isShort := goodIn_r _ [8, 9, 10, 11, 7, 12] (by decide +kernel) (by decide +kernel)
set_option maxRecDepth 20000 in
theorem gX4_tense_X4_isShort : GoodIn wsX4_tense (va_wsS RX4 149 yX4_isShort wsX4_isShort) := goodIn_app (goodIn_of _ (by decide +kernel)) ggX4_tense_X4_isShort
set_option maxRecDepth 20000 in
theorem ggX4_tense_X4_in : GoodIn wsX4_tense wsX4_in := goodIn_r _ [12] (by decide +kernel) (by decide +kernel)
set_option maxRecDepth 20000 in
theorem gX4_tense_X4_in : GoodIn wsX4_tense (va_wsS RX4 46 yX4_in wsX4_in) := goodIn_app (goodIn_of _ (by decide +kernel)) ggX4_tense_X4_in
set_option maxRecDepth 20000 in
theorem ggX4_tense_X4_finds : GoodIn wsX4_tense wsX4_finds := goodIn_r _ [16, 17, 18, 70, 71, 72, 73, 74, 75, 76, 77, 78, 79, 80, 81, 82, 83, 84, 85, 86, 87] (by decide +kernel) (by decide +kernel)
set_option maxRecDepth 20000 in
theorem gX4_tense_X4_finds : GoodIn wsX4_tense (wsV RX4 92 RX4 yX4_finds wsX4_finds) := goodIn_app (goodIn_of _ (by decide +kernel)) ggX4_tense_X4_finds
set_option maxRecDepth 20000 in
theorem ggX4_tense_X4_copies : GoodIn wsX4_tense wsX4_copies := goodIn_r _ [21] (by decide +kernel) (by decide +kernel)
set_option maxRecDepth 20000 in
theorem gX4_tense_X4_copies : GoodIn wsX4_tense (va_wsS RX4 129 yX4_copies wsX4_copies) := goodIn_app (goodIn_of _ (by decide +kernel)) ggX4_tense_X4_copies
set_option maxRecDepth 20000 in
theorem ggX4_tense_X4_houseBehind : GoodIn wsX4_tense wsX4_houseBehind := goodIn_r _ [25, 4, 3, 26, 27, 28, 7, 29, 30, 31, 32, 33, 34, 35, 36, 37, 38, 39, 40, 41, 42, 43, 44, 45, 46, 47, 48, 49, 50, 10, 11, 12, 51, 52, 53, 54, 55, 56, 57, 58, 59, 60, 61, 62, 63, 64, 65, 66, 67, 68, 69, 19, 20, 21, 70, 71, 72, 73, 74, 75, 76, 77, 78, 79, 80, 81, 82, 83, 84, 85, 86, 87] (by decide +kernel) (by decide +kernel)
set_option maxRecDepth 20000 in
theorem gX4_tense_X4_houseBehind : GoodIn wsX4_tense (wsV RX4 146 RX4 yX4_houseBehind wsX4_houseBehind) := goodIn_app (goodIn_of _ (by decide +kernel)) ggX4_tense_X4_houseBehind
theorem dX4_tense_0 : decode cX4_tense 0 = .ok (.iload_n 1, 1) := by decide +kernel
theorem dX4_tense_1 : decode cX4_tense 1 = .ok (.invokestatic 149, 3) := by decide +kernel
theorem dX4_tense_4 : decode cX4_tense 4 = .ok (.ifCond .eq 17, 3) := by decide +kernel
theorem dX4_tense_7 : decode cX4_tense 7 = .ok (.iload_n 2, 1) := by decide +kernel
theorem dX4_tense_8 : decode cX4_tense 8 = .ok (.i2l, 1) := by decide +kernel
theorem dX4_tense_9 : decode cX4_tense 9 = .ok (.ldc2_w 115, 3) := by decide +kernel
theorem dX4_tense_12 : decode cX4_tense 12 = .ok (.ldc2_w 117, 3) := by decide +kernel
theorem dX4_tense_15 : decode cX4_tense 15 = .ok (.invokestatic 46, 3) := by decide +kernel
theorem dX4_tense_18 : decode cX4_tense 18 = .ok (.ifCond .ne 9, 3) := by decide +kernel
theorem dX4_tense_21 : decode cX4_tense 21 = .ok (.aload_n 0, 1) := by decide +kernel
theorem dX4_tense_22 : decode cX4_tense 22 = .ok (.iconst 0, 1) := by decide +kernel
theorem dX4_tense_23 : decode cX4_tense 23 = .ok (.invokevirtual 92, 3) := by decide +kernel
theorem dX4_tense_26 : decode cX4_tense 26 = .ok (.ireturn, 1) := by decide +kernel
theorem dX4_tense_27 : decode cX4_tense 27 = .ok (.aload_n 0, 1) := by decide +kernel
theorem dX4_tense_28 : decode cX4_tense 28 = .ok (.getfield 7, 3) := by decide +kernel
theorem dX4_tense_31 : decode cX4_tense 31 = .ok (.aload_n 0, 1) := by decide +kernel
theorem dX4_tense_32 : decode cX4_tense 32 = .ok (.getfield 16, 3) := by decide +kernel
theorem dX4_tense_35 : decode cX4_tense 35 = .ok (.invokestatic 129, 3) := by decide +kernel
theorem dX4_tense_38 : decode cX4_tense 38 = .ok (.bipush 20, 2) := by decide +kernel
theorem dX4_tense_40 : decode cX4_tense 40 = .ok (.istore_n 3, 1) := by decide +kernel
theorem dX4_tense_41 : decode cX4_tense 41 = .ok (.iload_n 3, 1) := by decide +kernel
theorem dX4_tense_42 : decode cX4_tense 42 = .ok (.ifCond .lt 47, 3) := by decide +kernel
theorem dX4_tense_45 : decode cX4_tense 45 = .ok (.iconst 0, 1) := by decide +kernel
theorem dX4_tense_46 : decode cX4_tense 46 = .ok (.istore 4, 2) := by decide +kernel
theorem dX4_tense_48 : decode cX4_tense 48 = .ok (.iload 4, 2) := by decide +kernel
theorem dX4_tense_50 : decode cX4_tense 50 = .ok (.bipush 16, 2) := by decide +kernel
theorem dX4_tense_52 : decode cX4_tense 52 = .ok (.if_icmp .ge 20, 3) := by decide +kernel
theorem dX4_tense_55 : decode cX4_tense 55 = .ok (.aload_n 0, 1) := by decide +kernel
theorem dX4_tense_56 : decode cX4_tense 56 = .ok (.getfield 7, 3) := by decide +kernel
theorem dX4_tense_59 : decode cX4_tense 59 = .ok (.bipush 19, 2) := by decide +kernel
theorem dX4_tense_61 : decode cX4_tense 61 = .ok (.iload 4, 2) := by decide +kernel
theorem dX4_tense_63 : decode cX4_tense 63 = .ok (.iadd, 1) := by decide +kernel
theorem dX4_tense_64 : decode cX4_tense 64 = .ok (.iload_n 3, 1) := by decide +kernel
theorem dX4_tense_65 : decode cX4_tense 65 = .ok (.iastore, 1) := by decide +kernel
theorem dX4_tense_66 : decode cX4_tense 66 = .ok (.iinc 4 1, 3) := by decide +kernel
theorem dX4_tense_69 : decode cX4_tense 69 = .ok (.goto (-21), 3) := by decide +kernel
theorem dX4_tense_72 : decode cX4_tense 72 = .ok (.aload_n 0, 1) := by decide +kernel
theorem dX4_tense_73 : decode cX4_tense 73 = .ok (.iload_n 1, 1) := by decide +kernel
theorem dX4_tense_74 : decode cX4_tense 74 = .ok (.invokevirtual 146, 3) := by decide +kernel
theorem dX4_tense_77 : decode cX4_tense 77 = .ok (.iload_n 2, 1) := by decide +kernel
theorem dX4_tense_78 : decode cX4_tense 78 = .ok (.if_icmp .lt 5, 3) := by decide +kernel
theorem dX4_tense_81 : decode cX4_tense 81 = .ok (.iload_n 3, 1) := by decide +kernel
theorem dX4_tense_82 : decode cX4_tense 82 = .ok (.ireturn, 1) := by decide +kernel
theorem dX4_tense_83 : decode cX4_tense 83 = .ok (.iinc 3 (-1), 3) := by decide +kernel
theorem dX4_tense_86 : decode cX4_tense 86 = .ok (.goto (-45), 3) := by decide +kernel
theorem dX4_tense_89 : decode cX4_tense 89 = .ok (.aload_n 0, 1) := by decide +kernel
theorem dX4_tense_90 : decode cX4_tense 90 = .ok (.iconst 3, 1) := by decide +kernel
theorem dX4_tense_91 : decode cX4_tense 91 = .ok (.invokevirtual 92, 3) := by decide +kernel
theorem dX4_tense_94 : decode cX4_tense 94 = .ok (.ireturn, 1) := by decide +kernel
set_option maxRecDepth 20000 in
theorem ggX4_best_X4_isAhead : GoodIn wsX4_best wsX4_isAhead := goodIn_r _ [6, 7, 8, 9, 5, 10] (by decide +kernel) (by decide +kernel)
set_option maxRecDepth 20000 in
theorem gX4_best_X4_isAhead : GoodIn wsX4_best (va_wsS RX4 137 yX4_isAhead wsX4_isAhead) := goodIn_app (goodIn_of _ (by decide +kernel)) ggX4_best_X4_isAhead
set_option maxRecDepth 20000 in
theorem ggX4_best_X4_finds : GoodIn wsX4_best wsX4_finds := goodIn_r _ [14, 15, 16, 60, 61, 62, 63, 64, 65, 66, 67, 68, 69, 70, 71, 72, 73, 74, 75, 76, 77] (by decide +kernel) (by decide +kernel)
set_option maxRecDepth 20000 in
theorem gX4_best_X4_finds : GoodIn wsX4_best (wsV RX4 92 RX4 yX4_finds wsX4_finds) := goodIn_app (goodIn_of _ (by decide +kernel)) ggX4_best_X4_finds
set_option maxRecDepth 20000 in
theorem ggX4_best_X4_copies : GoodIn wsX4_best wsX4_copies := goodIn_r _ [19] (by decide +kernel) (by decide +kernel)
set_option maxRecDepth 20000 in
theorem gX4_best_X4_copies : GoodIn wsX4_best (va_wsS RX4 129 yX4_copies wsX4_copies) := goodIn_app (goodIn_of _ (by decide +kernel)) ggX4_best_X4_copies
set_option maxRecDepth 20000 in
theorem ggX4_best_X4_momentsGo : GoodIn wsX4_best wsX4_momentsGo := goodIn_r _ [23, 24, 25, 26, 5, 27, 1, 28, 29, 30, 31, 32, 33, 34, 35, 36, 37, 38, 39, 40, 41, 42, 43, 44, 8, 9, 10, 45, 46, 47, 48, 49, 50, 51, 52, 53, 54, 55, 56, 57, 58, 59, 60, 61, 62, 63, 64, 65, 66, 67, 68, 69, 70, 71, 72, 73, 74, 75, 76, 77] (by decide +kernel) (by decide +kernel)
set_option maxRecDepth 20000 in
theorem gX4_best_X4_momentsGo : GoodIn wsX4_best (wsV RX4 125 RX4 yX4_momentsGo wsX4_momentsGo) := goodIn_app (goodIn_of _ (by decide +kernel)) ggX4_best_X4_momentsGo
set_option maxRecDepth 20000 in
theorem ggX4_best_X4_its : GoodIn wsX4_best wsX4_its := goodIn_r _ [36, 1, 60, 61, 62, 63, 64, 65, 66, 67, 68, 69, 70, 71, 72, 73, 74, 75, 76, 77] (by decide +kernel) (by decide +kernel)
set_option maxRecDepth 20000 in
theorem gX4_best_X4_its : GoodIn wsX4_best (wsV RX4 54 RX4 yX4_its wsX4_its) := goodIn_app (goodIn_of _ (by decide +kernel)) ggX4_best_X4_its
theorem dX4_best_0 : decode cX4_best 0 = .ok (.iload_n 1, 1) := by decide +kernel
theorem dX4_best_1 : decode cX4_best 1 = .ok (.invokestatic 137, 3) := by decide +kernel
theorem dX4_best_4 : decode cX4_best 4 = .ok (.ifCond .ne 9, 3) := by decide +kernel
theorem dX4_best_7 : decode cX4_best 7 = .ok (.aload_n 0, 1) := by decide +kernel
theorem dX4_best_8 : decode cX4_best 8 = .ok (.iconst 0, 1) := by decide +kernel
theorem dX4_best_9 : decode cX4_best 9 = .ok (.invokevirtual 92, 3) := by decide +kernel
theorem dX4_best_12 : decode cX4_best 12 = .ok (.ireturn, 1) := by decide +kernel
theorem dX4_best_13 : decode cX4_best 13 = .ok (.aload_n 0, 1) := by decide +kernel
theorem dX4_best_14 : decode cX4_best 14 = .ok (.getfield 7, 3) := by decide +kernel
theorem dX4_best_17 : decode cX4_best 17 = .ok (.aload_n 0, 1) := by decide +kernel
theorem dX4_best_18 : decode cX4_best 18 = .ok (.getfield 16, 3) := by decide +kernel
theorem dX4_best_21 : decode cX4_best 21 = .ok (.invokestatic 129, 3) := by decide +kernel
theorem dX4_best_24 : decode cX4_best 24 = .ok (.aload_n 0, 1) := by decide +kernel
theorem dX4_best_25 : decode cX4_best 25 = .ok (.iload_n 1, 1) := by decide +kernel
theorem dX4_best_26 : decode cX4_best 26 = .ok (.invokevirtual 125, 3) := by decide +kernel
theorem dX4_best_29 : decode cX4_best 29 = .ok (.iconst (-1), 1) := by decide +kernel
theorem dX4_best_30 : decode cX4_best 30 = .ok (.istore_n 2, 1) := by decide +kernel
theorem dX4_best_31 : decode cX4_best 31 = .ok (.iconst 0, 1) := by decide +kernel
theorem dX4_best_32 : decode cX4_best 32 = .ok (.istore_n 3, 1) := by decide +kernel
theorem dX4_best_33 : decode cX4_best 33 = .ok (.iload_n 3, 1) := by decide +kernel
theorem dX4_best_34 : decode cX4_best 34 = .ok (.aload_n 0, 1) := by decide +kernel
theorem dX4_best_35 : decode cX4_best 35 = .ok (.getfield 7, 3) := by decide +kernel
theorem dX4_best_38 : decode cX4_best 38 = .ok (.iconst 0, 1) := by decide +kernel
theorem dX4_best_39 : decode cX4_best 39 = .ok (.iaload, 1) := by decide +kernel
theorem dX4_best_40 : decode cX4_best 40 = .ok (.if_icmp .ge 34, 3) := by decide +kernel
theorem dX4_best_43 : decode cX4_best 43 = .ok (.iload_n 2, 1) := by decide +kernel
theorem dX4_best_44 : decode cX4_best 44 = .ok (.ifCond .lt 18, 3) := by decide +kernel
theorem dX4_best_47 : decode cX4_best 47 = .ok (.aload_n 0, 1) := by decide +kernel
theorem dX4_best_48 : decode cX4_best 48 = .ok (.iload_n 3, 1) := by decide +kernel
theorem dX4_best_49 : decode cX4_best 49 = .ok (.iconst 2, 1) := by decide +kernel
theorem dX4_best_50 : decode cX4_best 50 = .ok (.invokevirtual 54, 3) := by decide +kernel
theorem dX4_best_53 : decode cX4_best 53 = .ok (.aload_n 0, 1) := by decide +kernel
theorem dX4_best_54 : decode cX4_best 54 = .ok (.iload_n 2, 1) := by decide +kernel
theorem dX4_best_55 : decode cX4_best 55 = .ok (.iconst 2, 1) := by decide +kernel
theorem dX4_best_56 : decode cX4_best 56 = .ok (.invokevirtual 54, 3) := by decide +kernel
theorem dX4_best_59 : decode cX4_best 59 = .ok (.if_icmp .le 7, 3) := by decide +kernel
theorem dX4_best_62 : decode cX4_best 62 = .ok (.iload_n 3, 1) := by decide +kernel
theorem dX4_best_63 : decode cX4_best 63 = .ok (.goto 4, 3) := by decide +kernel
theorem dX4_best_66 : decode cX4_best 66 = .ok (.iload_n 2, 1) := by decide +kernel
theorem dX4_best_67 : decode cX4_best 67 = .ok (.istore_n 2, 1) := by decide +kernel
theorem dX4_best_68 : decode cX4_best 68 = .ok (.iinc 3 1, 3) := by decide +kernel
theorem dX4_best_71 : decode cX4_best 71 = .ok (.goto (-38), 3) := by decide +kernel
theorem dX4_best_74 : decode cX4_best 74 = .ok (.aload_n 0, 1) := by decide +kernel
theorem dX4_best_75 : decode cX4_best 75 = .ok (.getfield 16, 3) := by decide +kernel
theorem dX4_best_78 : decode cX4_best 78 = .ok (.aload_n 0, 1) := by decide +kernel
theorem dX4_best_79 : decode cX4_best 79 = .ok (.getfield 7, 3) := by decide +kernel
theorem dX4_best_82 : decode cX4_best 82 = .ok (.invokestatic 129, 3) := by decide +kernel
theorem dX4_best_85 : decode cX4_best 85 = .ok (.iload_n 2, 1) := by decide +kernel
theorem dX4_best_86 : decode cX4_best 86 = .ok (.ifCond .ge 11, 3) := by decide +kernel
theorem dX4_best_89 : decode cX4_best 89 = .ok (.aload_n 0, 1) := by decide +kernel
theorem dX4_best_90 : decode cX4_best 90 = .ok (.iconst 3, 1) := by decide +kernel
theorem dX4_best_91 : decode cX4_best 91 = .ok (.invokevirtual 92, 3) := by decide +kernel
theorem dX4_best_94 : decode cX4_best 94 = .ok (.goto 4, 3) := by decide +kernel
theorem dX4_best_97 : decode cX4_best 97 = .ok (.iload_n 2, 1) := by decide +kernel
theorem dX4_best_98 : decode cX4_best 98 = .ok (.ireturn, 1) := by decide +kernel
set_option maxRecDepth 20000 in
theorem ggX4_feed_X4_in : GoodIn wsX4_feed wsX4_in := goodIn_r _ [7] (by decide +kernel) (by decide +kernel)
set_option maxRecDepth 20000 in
theorem gX4_feed_X4_in : GoodIn wsX4_feed (va_wsS RX4 46 yX4_in wsX4_in) := goodIn_app (goodIn_of _ (by decide +kernel)) ggX4_feed_X4_in
set_option maxRecDepth 20000 in
theorem ggX4_feed_X4_finds : GoodIn wsX4_feed wsX4_finds := goodIn_r _ [11, 12, 13, 14, 15, 16, 17, 18, 19, 20, 21, 22, 23, 24, 25, 26, 27, 28, 29, 30, 31] (by decide +kernel) (by decide +kernel)
set_option maxRecDepth 20000 in
theorem gX4_feed_X4_finds : GoodIn wsX4_feed (wsV RX4 92 RX4 yX4_finds wsX4_finds) := goodIn_app (goodIn_of _ (by decide +kernel)) ggX4_feed_X4_finds
theorem dX4_feed_0 : decode cX4_feed 0 = .ok (.iload_n 2, 1) := by decide +kernel
theorem dX4_feed_1 : decode cX4_feed 1 = .ok (.i2l, 1) := by decide +kernel
theorem dX4_feed_2 : decode cX4_feed 2 = .ok (.lconst 1, 1) := by decide +kernel
theorem dX4_feed_3 : decode cX4_feed 3 = .ok (.ldc2_w 85, 3) := by decide +kernel
theorem dX4_feed_6 : decode cX4_feed 6 = .ok (.invokestatic 46, 3) := by decide +kernel
theorem dX4_feed_9 : decode cX4_feed 9 = .ok (.ifCond .ne 9, 3) := by decide +kernel
theorem dX4_feed_12 : decode cX4_feed 12 = .ok (.aload_n 0, 1) := by decide +kernel
theorem dX4_feed_13 : decode cX4_feed 13 = .ok (.iconst 0, 1) := by decide +kernel
theorem dX4_feed_14 : decode cX4_feed 14 = .ok (.invokevirtual 92, 3) := by decide +kernel
theorem dX4_feed_17 : decode cX4_feed 17 = .ok (.ireturn, 1) := by decide +kernel
theorem dX4_feed_18 : decode cX4_feed 18 = .ok (.aload_n 0, 1) := by decide +kernel
theorem dX4_feed_19 : decode cX4_feed 19 = .ok (.getfield 156, 3) := by decide +kernel
theorem dX4_feed_22 : decode cX4_feed 22 = .ok (.iload_n 2, 1) := by decide +kernel
theorem dX4_feed_23 : decode cX4_feed 23 = .ok (.iadd, 1) := by decide +kernel
theorem dX4_feed_24 : decode cX4_feed 24 = .ok (.bipush 120, 2) := by decide +kernel
theorem dX4_feed_26 : decode cX4_feed 26 = .ok (.if_icmp .le 9, 3) := by decide +kernel
theorem dX4_feed_29 : decode cX4_feed 29 = .ok (.aload_n 0, 1) := by decide +kernel
theorem dX4_feed_30 : decode cX4_feed 30 = .ok (.iconst 1, 1) := by decide +kernel
theorem dX4_feed_31 : decode cX4_feed 31 = .ok (.invokevirtual 92, 3) := by decide +kernel
theorem dX4_feed_34 : decode cX4_feed 34 = .ok (.ireturn, 1) := by decide +kernel
theorem dX4_feed_35 : decode cX4_feed 35 = .ok (.iload_n 2, 1) := by decide +kernel
theorem dX4_feed_36 : decode cX4_feed 36 = .ok (.iconst 1, 1) := by decide +kernel
theorem dX4_feed_37 : decode cX4_feed 37 = .ok (.isub, 1) := by decide +kernel
theorem dX4_feed_38 : decode cX4_feed 38 = .ok (.istore_n 3, 1) := by decide +kernel
theorem dX4_feed_39 : decode cX4_feed 39 = .ok (.iload_n 3, 1) := by decide +kernel
theorem dX4_feed_40 : decode cX4_feed 40 = .ok (.ifCond .lt 35, 3) := by decide +kernel
theorem dX4_feed_43 : decode cX4_feed 43 = .ok (.aload_n 0, 1) := by decide +kernel
theorem dX4_feed_44 : decode cX4_feed 44 = .ok (.getfield 25, 3) := by decide +kernel
theorem dX4_feed_47 : decode cX4_feed 47 = .ok (.aload_n 0, 1) := by decide +kernel
theorem dX4_feed_48 : decode cX4_feed 48 = .ok (.getfield 156, 3) := by decide +kernel
theorem dX4_feed_51 : decode cX4_feed 51 = .ok (.iload_n 1, 1) := by decide +kernel
theorem dX4_feed_52 : decode cX4_feed 52 = .ok (.bipush 8, 2) := by decide +kernel
theorem dX4_feed_54 : decode cX4_feed 54 = .ok (.iload_n 3, 1) := by decide +kernel
theorem dX4_feed_55 : decode cX4_feed 55 = .ok (.imul, 1) := by decide +kernel
theorem dX4_feed_56 : decode cX4_feed 56 = .ok (.ishr, 1) := by decide +kernel
theorem dX4_feed_57 : decode cX4_feed 57 = .ok (.i2b, 1) := by decide +kernel
theorem dX4_feed_58 : decode cX4_feed 58 = .ok (.bastore, 1) := by decide +kernel
theorem dX4_feed_59 : decode cX4_feed 59 = .ok (.aload_n 0, 1) := by decide +kernel
theorem dX4_feed_60 : decode cX4_feed 60 = .ok (.dup, 1) := by decide +kernel
theorem dX4_feed_61 : decode cX4_feed 61 = .ok (.getfield 156, 3) := by decide +kernel
theorem dX4_feed_64 : decode cX4_feed 64 = .ok (.iconst 1, 1) := by decide +kernel
theorem dX4_feed_65 : decode cX4_feed 65 = .ok (.iadd, 1) := by decide +kernel
theorem dX4_feed_66 : decode cX4_feed 66 = .ok (.putfield 156, 3) := by decide +kernel
theorem dX4_feed_69 : decode cX4_feed 69 = .ok (.iinc 3 (-1), 3) := by decide +kernel
theorem dX4_feed_72 : decode cX4_feed 72 = .ok (.goto (-33), 3) := by decide +kernel
theorem dX4_feed_75 : decode cX4_feed 75 = .ok (.aload_n 0, 1) := by decide +kernel
theorem dX4_feed_76 : decode cX4_feed 76 = .ok (.getfield 156, 3) := by decide +kernel
theorem dX4_feed_79 : decode cX4_feed 79 = .ok (.ireturn, 1) := by decide +kernel
theorem dX4_wipe_0 : decode cX4_wipe 0 = .ok (.aload_n 0, 1) := by decide +kernel
theorem dX4_wipe_1 : decode cX4_wipe 1 = .ok (.getfield 156, 3) := by decide +kernel
theorem dX4_wipe_4 : decode cX4_wipe 4 = .ok (.istore_n 1, 1) := by decide +kernel
theorem dX4_wipe_5 : decode cX4_wipe 5 = .ok (.aload_n 0, 1) := by decide +kernel
theorem dX4_wipe_6 : decode cX4_wipe 6 = .ok (.iconst 0, 1) := by decide +kernel
theorem dX4_wipe_7 : decode cX4_wipe 7 = .ok (.putfield 156, 3) := by decide +kernel
theorem dX4_wipe_10 : decode cX4_wipe 10 = .ok (.iload_n 1, 1) := by decide +kernel
theorem dX4_wipe_11 : decode cX4_wipe 11 = .ok (.ireturn, 1) := by decide +kernel
theorem dX4_letter_0 : decode cX4_letter 0 = .ok (.iload_n 0, 1) := by decide +kernel
theorem dX4_letter_1 : decode cX4_letter 1 = .ok (.bipush 97, 2) := by decide +kernel
theorem dX4_letter_3 : decode cX4_letter 3 = .ok (.if_icmp .lt 18, 3) := by decide +kernel
theorem dX4_letter_6 : decode cX4_letter 6 = .ok (.iload_n 0, 1) := by decide +kernel
theorem dX4_letter_7 : decode cX4_letter 7 = .ok (.bipush 122, 2) := by decide +kernel
theorem dX4_letter_9 : decode cX4_letter 9 = .ok (.if_icmp .gt 12, 3) := by decide +kernel
theorem dX4_letter_12 : decode cX4_letter 12 = .ok (.iload_n 0, 1) := by decide +kernel
theorem dX4_letter_13 : decode cX4_letter 13 = .ok (.bipush 97, 2) := by decide +kernel
theorem dX4_letter_15 : decode cX4_letter 15 = .ok (.isub, 1) := by decide +kernel
theorem dX4_letter_16 : decode cX4_letter 16 = .ok (.iconst 1, 1) := by decide +kernel
theorem dX4_letter_17 : decode cX4_letter 17 = .ok (.iadd, 1) := by decide +kernel
theorem dX4_letter_18 : decode cX4_letter 18 = .ok (.goto 4, 3) := by decide +kernel
theorem dX4_letter_21 : decode cX4_letter 21 = .ok (.iconst 0, 1) := by decide +kernel
theorem dX4_letter_22 : decode cX4_letter 22 = .ok (.ireturn, 1) := by decide +kernel
theorem dX4_isDigit_0 : decode cX4_isDigit 0 = .ok (.iload_n 0, 1) := by decide +kernel
theorem dX4_isDigit_1 : decode cX4_isDigit 1 = .ok (.bipush 48, 2) := by decide +kernel
theorem dX4_isDigit_3 : decode cX4_isDigit 3 = .ok (.if_icmp .lt 13, 3) := by decide +kernel
theorem dX4_isDigit_6 : decode cX4_isDigit 6 = .ok (.iload_n 0, 1) := by decide +kernel
theorem dX4_isDigit_7 : decode cX4_isDigit 7 = .ok (.bipush 57, 2) := by decide +kernel
theorem dX4_isDigit_9 : decode cX4_isDigit 9 = .ok (.if_icmp .gt 7, 3) := by decide +kernel
theorem dX4_isDigit_12 : decode cX4_isDigit 12 = .ok (.iconst 1, 1) := by decide +kernel
theorem dX4_isDigit_13 : decode cX4_isDigit 13 = .ok (.goto 4, 3) := by decide +kernel
theorem dX4_isDigit_16 : decode cX4_isDigit 16 = .ok (.iconst 0, 1) := by decide +kernel
theorem dX4_isDigit_17 : decode cX4_isDigit 17 = .ok (.ireturn, 1) := by decide +kernel
theorem dX4_byteAt_0 : decode cX4_byteAt 0 = .ok (.iload_n 1, 1) := by decide +kernel
theorem dX4_byteAt_1 : decode cX4_byteAt 1 = .ok (.aload_n 0, 1) := by decide +kernel
theorem dX4_byteAt_2 : decode cX4_byteAt 2 = .ok (.getfield 156, 3) := by decide +kernel
theorem dX4_byteAt_5 : decode cX4_byteAt 5 = .ok (.if_icmp .ge 12, 3) := by decide +kernel
theorem dX4_byteAt_8 : decode cX4_byteAt 8 = .ok (.aload_n 0, 1) := by decide +kernel
theorem dX4_byteAt_9 : decode cX4_byteAt 9 = .ok (.getfield 25, 3) := by decide +kernel
theorem dX4_byteAt_12 : decode cX4_byteAt 12 = .ok (.iload_n 1, 1) := by decide +kernel
theorem dX4_byteAt_13 : decode cX4_byteAt 13 = .ok (.baload, 1) := by decide +kernel
theorem dX4_byteAt_14 : decode cX4_byteAt 14 = .ok (.goto 4, 3) := by decide +kernel
theorem dX4_byteAt_17 : decode cX4_byteAt 17 = .ok (.iconst (-1), 1) := by decide +kernel
theorem dX4_byteAt_18 : decode cX4_byteAt 18 = .ok (.ireturn, 1) := by decide +kernel
set_option maxRecDepth 20000 in
theorem ggX4_next_X4_byteAt : GoodIn wsX4_next wsX4_byteAt := goodIn_r _ [15, 4, 16, 23, 24, 25, 26, 27, 28, 29, 30, 31, 32, 33, 34, 35, 36, 37, 38, 39, 40] (by decide +kernel) (by decide +kernel)
set_option maxRecDepth 20000 in
theorem gX4_next_X4_byteAt : GoodIn wsX4_next (wsV RX4 163 RX4 yX4_byteAt wsX4_byteAt) := goodIn_app (goodIn_of _ (by decide +kernel)) ggX4_next_X4_byteAt
set_option maxRecDepth 20000 in
theorem ggX4_next_X4_letter : GoodIn wsX4_next wsX4_letter := goodIn_r _ [19] (by decide +kernel) (by decide +kernel)
set_option maxRecDepth 20000 in
theorem gX4_next_X4_letter : GoodIn wsX4_next (va_wsS RX4 176 yX4_letter wsX4_letter) := goodIn_app (goodIn_of _ (by decide +kernel)) ggX4_next_X4_letter
set_option maxRecDepth 20000 in
theorem ggX4_next_X4_isDigit : GoodIn wsX4_next wsX4_isDigit := goodIn_r _ [22] (by decide +kernel) (by decide +kernel)
set_option maxRecDepth 20000 in
theorem gX4_next_X4_isDigit : GoodIn wsX4_next (va_wsS RX4 183 yX4_isDigit wsX4_isDigit) := goodIn_app (goodIn_of _ (by decide +kernel)) ggX4_next_X4_isDigit
theorem dX4_next_0 : decode cX4_next 0 = .ok (.aload_n 0, 1) := by decide +kernel
theorem dX4_next_1 : decode cX4_next 1 = .ok (.aload_n 0, 1) := by decide +kernel
theorem dX4_next_2 : decode cX4_next 2 = .ok (.getfield 160, 3) := by decide +kernel
theorem dX4_next_5 : decode cX4_next 5 = .ok (.invokevirtual 163, 3) := by decide +kernel
theorem dX4_next_8 : decode cX4_next 8 = .ok (.bipush 32, 2) := by decide +kernel
theorem dX4_next_10 : decode cX4_next 10 = .ok (.if_icmp .ne 16, 3) := by decide +kernel
theorem dX4_next_13 : decode cX4_next 13 = .ok (.aload_n 0, 1) := by decide +kernel
theorem dX4_next_14 : decode cX4_next 14 = .ok (.dup, 1) := by decide +kernel
theorem dX4_next_15 : decode cX4_next 15 = .ok (.getfield 160, 3) := by decide +kernel
theorem dX4_next_18 : decode cX4_next 18 = .ok (.iconst 1, 1) := by decide +kernel
theorem dX4_next_19 : decode cX4_next 19 = .ok (.iadd, 1) := by decide +kernel
theorem dX4_next_20 : decode cX4_next 20 = .ok (.putfield 160, 3) := by decide +kernel
theorem dX4_next_23 : decode cX4_next 23 = .ok (.goto (-23), 3) := by decide +kernel
theorem dX4_next_26 : decode cX4_next 26 = .ok (.aload_n 0, 1) := by decide +kernel
theorem dX4_next_27 : decode cX4_next 27 = .ok (.aload_n 0, 1) := by decide +kernel
theorem dX4_next_28 : decode cX4_next 28 = .ok (.getfield 160, 3) := by decide +kernel
theorem dX4_next_31 : decode cX4_next 31 = .ok (.putfield 166, 3) := by decide +kernel
theorem dX4_next_34 : decode cX4_next 34 = .ok (.aload_n 0, 1) := by decide +kernel
theorem dX4_next_35 : decode cX4_next 35 = .ok (.lconst 0, 1) := by decide +kernel
theorem dX4_next_36 : decode cX4_next 36 = .ok (.putfield 169, 3) := by decide +kernel
theorem dX4_next_39 : decode cX4_next 39 = .ok (.aload_n 0, 1) := by decide +kernel
theorem dX4_next_40 : decode cX4_next 40 = .ok (.aload_n 0, 1) := by decide +kernel
theorem dX4_next_41 : decode cX4_next 41 = .ok (.getfield 160, 3) := by decide +kernel
theorem dX4_next_44 : decode cX4_next 44 = .ok (.invokevirtual 163, 3) := by decide +kernel
theorem dX4_next_47 : decode cX4_next 47 = .ok (.istore_n 1, 1) := by decide +kernel
theorem dX4_next_48 : decode cX4_next 48 = .ok (.aload_n 0, 1) := by decide +kernel
theorem dX4_next_49 : decode cX4_next 49 = .ok (.getfield 160, 3) := by decide +kernel
theorem dX4_next_52 : decode cX4_next 52 = .ok (.aload_n 0, 1) := by decide +kernel
theorem dX4_next_53 : decode cX4_next 53 = .ok (.getfield 156, 3) := by decide +kernel
theorem dX4_next_56 : decode cX4_next 56 = .ok (.if_icmp .ne 11, 3) := by decide +kernel
theorem dX4_next_59 : decode cX4_next 59 = .ok (.aload_n 0, 1) := by decide +kernel
theorem dX4_next_60 : decode cX4_next 60 = .ok (.iconst 0, 1) := by decide +kernel
theorem dX4_next_61 : decode cX4_next 61 = .ok (.putfield 173, 3) := by decide +kernel
theorem dX4_next_64 : decode cX4_next 64 = .ok (.goto 197, 3) := by decide +kernel
theorem dX4_next_67 : decode cX4_next 67 = .ok (.iload_n 1, 1) := by decide +kernel
theorem dX4_next_68 : decode cX4_next 68 = .ok (.bipush 59, 2) := by decide +kernel
theorem dX4_next_70 : decode cX4_next 70 = .ok (.if_icmp .ne 21, 3) := by decide +kernel
theorem dX4_next_73 : decode cX4_next 73 = .ok (.aload_n 0, 1) := by decide +kernel
theorem dX4_next_74 : decode cX4_next 74 = .ok (.iconst 3, 1) := by decide +kernel
theorem dX4_next_75 : decode cX4_next 75 = .ok (.putfield 173, 3) := by decide +kernel
theorem dX4_next_78 : decode cX4_next 78 = .ok (.aload_n 0, 1) := by decide +kernel
theorem dX4_next_79 : decode cX4_next 79 = .ok (.dup, 1) := by decide +kernel
theorem dX4_next_80 : decode cX4_next 80 = .ok (.getfield 160, 3) := by decide +kernel
theorem dX4_next_83 : decode cX4_next 83 = .ok (.iconst 1, 1) := by decide +kernel
theorem dX4_next_84 : decode cX4_next 84 = .ok (.iadd, 1) := by decide +kernel
theorem dX4_next_85 : decode cX4_next 85 = .ok (.putfield 160, 3) := by decide +kernel
theorem dX4_next_88 : decode cX4_next 88 = .ok (.goto 173, 3) := by decide +kernel
theorem dX4_next_91 : decode cX4_next 91 = .ok (.iload_n 1, 1) := by decide +kernel
theorem dX4_next_92 : decode cX4_next 92 = .ok (.invokestatic 176, 3) := by decide +kernel
theorem dX4_next_95 : decode cX4_next 95 = .ok (.ifCond .le 78, 3) := by decide +kernel
theorem dX4_next_98 : decode cX4_next 98 = .ok (.aload_n 0, 1) := by decide +kernel
theorem dX4_next_99 : decode cX4_next 99 = .ok (.iconst 1, 1) := by decide +kernel
theorem dX4_next_100 : decode cX4_next 100 = .ok (.putfield 173, 3) := by decide +kernel
theorem dX4_next_103 : decode cX4_next 103 = .ok (.aload_n 0, 1) := by decide +kernel
theorem dX4_next_104 : decode cX4_next 104 = .ok (.aload_n 0, 1) := by decide +kernel
theorem dX4_next_105 : decode cX4_next 105 = .ok (.getfield 160, 3) := by decide +kernel
theorem dX4_next_108 : decode cX4_next 108 = .ok (.invokevirtual 163, 3) := by decide +kernel
theorem dX4_next_111 : decode cX4_next 111 = .ok (.invokestatic 176, 3) := by decide +kernel
theorem dX4_next_114 : decode cX4_next 114 = .ok (.ifCond .le 147, 3) := by decide +kernel
theorem dX4_next_117 : decode cX4_next 117 = .ok (.aload_n 0, 1) := by decide +kernel
theorem dX4_next_118 : decode cX4_next 118 = .ok (.aload_n 0, 1) := by decide +kernel
theorem dX4_next_119 : decode cX4_next 119 = .ok (.getfield 169, 3) := by decide +kernel
theorem dX4_next_122 : decode cX4_next 122 = .ok (.ldc2_w 179, 3) := by decide +kernel
theorem dX4_next_125 : decode cX4_next 125 = .ok (.lcmp, 1) := by decide +kernel
theorem dX4_next_126 : decode cX4_next 126 = .ok (.ifCond .le 10, 3) := by decide +kernel
theorem dX4_next_129 : decode cX4_next 129 = .ok (.aload_n 0, 1) := by decide +kernel
theorem dX4_next_130 : decode cX4_next 130 = .ok (.getfield 169, 3) := by decide +kernel
theorem dX4_next_133 : decode cX4_next 133 = .ok (.goto 24, 3) := by decide +kernel
theorem dX4_next_136 : decode cX4_next 136 = .ok (.aload_n 0, 1) := by decide +kernel
theorem dX4_next_137 : decode cX4_next 137 = .ok (.getfield 169, 3) := by decide +kernel
theorem dX4_next_140 : decode cX4_next 140 = .ok (.ldc2_w 181, 3) := by decide +kernel
theorem dX4_next_143 : decode cX4_next 143 = .ok (.lmul, 1) := by decide +kernel
theorem dX4_next_144 : decode cX4_next 144 = .ok (.aload_n 0, 1) := by decide +kernel
theorem dX4_next_145 : decode cX4_next 145 = .ok (.aload_n 0, 1) := by decide +kernel
theorem dX4_next_146 : decode cX4_next 146 = .ok (.getfield 160, 3) := by decide +kernel
theorem dX4_next_149 : decode cX4_next 149 = .ok (.invokevirtual 163, 3) := by decide +kernel
theorem dX4_next_152 : decode cX4_next 152 = .ok (.invokestatic 176, 3) := by decide +kernel
theorem dX4_next_155 : decode cX4_next 155 = .ok (.i2l, 1) := by decide +kernel
theorem dX4_next_156 : decode cX4_next 156 = .ok (.ladd, 1) := by decide +kernel
theorem dX4_next_157 : decode cX4_next 157 = .ok (.putfield 169, 3) := by decide +kernel
theorem dX4_next_160 : decode cX4_next 160 = .ok (.aload_n 0, 1) := by decide +kernel
theorem dX4_next_161 : decode cX4_next 161 = .ok (.dup, 1) := by decide +kernel
theorem dX4_next_162 : decode cX4_next 162 = .ok (.getfield 160, 3) := by decide +kernel
theorem dX4_next_165 : decode cX4_next 165 = .ok (.iconst 1, 1) := by decide +kernel
theorem dX4_next_166 : decode cX4_next 166 = .ok (.iadd, 1) := by decide +kernel
theorem dX4_next_167 : decode cX4_next 167 = .ok (.putfield 160, 3) := by decide +kernel
theorem dX4_next_170 : decode cX4_next 170 = .ok (.goto (-67), 3) := by decide +kernel
theorem dX4_next_173 : decode cX4_next 173 = .ok (.iload_n 1, 1) := by decide +kernel
theorem dX4_next_174 : decode cX4_next 174 = .ok (.invokestatic 183, 3) := by decide +kernel
theorem dX4_next_177 : decode cX4_next 177 = .ok (.ifCond .eq 79, 3) := by decide +kernel
theorem dX4_next_180 : decode cX4_next 180 = .ok (.aload_n 0, 1) := by decide +kernel
theorem dX4_next_181 : decode cX4_next 181 = .ok (.iconst 2, 1) := by decide +kernel
theorem dX4_next_182 : decode cX4_next 182 = .ok (.putfield 173, 3) := by decide +kernel
theorem dX4_next_185 : decode cX4_next 185 = .ok (.aload_n 0, 1) := by decide +kernel
theorem dX4_next_186 : decode cX4_next 186 = .ok (.aload_n 0, 1) := by decide +kernel
theorem dX4_next_187 : decode cX4_next 187 = .ok (.getfield 160, 3) := by decide +kernel
theorem dX4_next_190 : decode cX4_next 190 = .ok (.invokevirtual 163, 3) := by decide +kernel
theorem dX4_next_193 : decode cX4_next 193 = .ok (.invokestatic 183, 3) := by decide +kernel
theorem dX4_next_196 : decode cX4_next 196 = .ok (.ifCond .eq 65, 3) := by decide +kernel
theorem dX4_next_199 : decode cX4_next 199 = .ok (.aload_n 0, 1) := by decide +kernel
theorem dX4_next_200 : decode cX4_next 200 = .ok (.aload_n 0, 1) := by decide +kernel
theorem dX4_next_201 : decode cX4_next 201 = .ok (.getfield 169, 3) := by decide +kernel
theorem dX4_next_204 : decode cX4_next 204 = .ok (.ldc2_w 186, 3) := by decide +kernel
theorem dX4_next_207 : decode cX4_next 207 = .ok (.lcmp, 1) := by decide +kernel
theorem dX4_next_208 : decode cX4_next 208 = .ok (.ifCond .le 10, 3) := by decide +kernel
theorem dX4_next_211 : decode cX4_next 211 = .ok (.aload_n 0, 1) := by decide +kernel
theorem dX4_next_212 : decode cX4_next 212 = .ok (.getfield 169, 3) := by decide +kernel
theorem dX4_next_215 : decode cX4_next 215 = .ok (.goto 25, 3) := by decide +kernel
theorem dX4_next_218 : decode cX4_next 218 = .ok (.aload_n 0, 1) := by decide +kernel
theorem dX4_next_219 : decode cX4_next 219 = .ok (.getfield 169, 3) := by decide +kernel
theorem dX4_next_222 : decode cX4_next 222 = .ok (.ldc2_w 188, 3) := by decide +kernel
theorem dX4_next_225 : decode cX4_next 225 = .ok (.lmul, 1) := by decide +kernel
theorem dX4_next_226 : decode cX4_next 226 = .ok (.aload_n 0, 1) := by decide +kernel
theorem dX4_next_227 : decode cX4_next 227 = .ok (.aload_n 0, 1) := by decide +kernel
theorem dX4_next_228 : decode cX4_next 228 = .ok (.getfield 160, 3) := by decide +kernel
theorem dX4_next_231 : decode cX4_next 231 = .ok (.invokevirtual 163, 3) := by decide +kernel
theorem dX4_next_234 : decode cX4_next 234 = .ok (.i2l, 1) := by decide +kernel
theorem dX4_next_235 : decode cX4_next 235 = .ok (.ladd, 1) := by decide +kernel
theorem dX4_next_236 : decode cX4_next 236 = .ok (.ldc2_w 190, 3) := by decide +kernel
theorem dX4_next_239 : decode cX4_next 239 = .ok (.lsub, 1) := by decide +kernel
theorem dX4_next_240 : decode cX4_next 240 = .ok (.putfield 169, 3) := by decide +kernel
theorem dX4_next_243 : decode cX4_next 243 = .ok (.aload_n 0, 1) := by decide +kernel
theorem dX4_next_244 : decode cX4_next 244 = .ok (.dup, 1) := by decide +kernel
theorem dX4_next_245 : decode cX4_next 245 = .ok (.getfield 160, 3) := by decide +kernel
theorem dX4_next_248 : decode cX4_next 248 = .ok (.iconst 1, 1) := by decide +kernel
theorem dX4_next_249 : decode cX4_next 249 = .ok (.iadd, 1) := by decide +kernel
theorem dX4_next_250 : decode cX4_next 250 = .ok (.putfield 160, 3) := by decide +kernel
theorem dX4_next_253 : decode cX4_next 253 = .ok (.goto (-68), 3) := by decide +kernel
theorem dX4_next_256 : decode cX4_next 256 = .ok (.aload_n 0, 1) := by decide +kernel
theorem dX4_next_257 : decode cX4_next 257 = .ok (.iconst 4, 1) := by decide +kernel
theorem dX4_next_258 : decode cX4_next 258 = .ok (.putfield 173, 3) := by decide +kernel
theorem dX4_next_261 : decode cX4_next 261 = .ok (.return_, 1) := by decide +kernel
theorem dX4_wrongHere_0 : decode cX4_wrongHere 0 = .ok (.aload_n 0, 1) := by decide +kernel
theorem dX4_wrongHere_1 : decode cX4_wrongHere 1 = .ok (.aload_n 0, 1) := by decide +kernel
theorem dX4_wrongHere_2 : decode cX4_wrongHere 2 = .ok (.getfield 192, 3) := by decide +kernel
theorem dX4_wrongHere_5 : decode cX4_wrongHere 5 = .ok (.ifCond .ge 10, 3) := by decide +kernel
theorem dX4_wrongHere_8 : decode cX4_wrongHere 8 = .ok (.aload_n 0, 1) := by decide +kernel
theorem dX4_wrongHere_9 : decode cX4_wrongHere 9 = .ok (.getfield 166, 3) := by decide +kernel
theorem dX4_wrongHere_12 : decode cX4_wrongHere 12 = .ok (.goto 7, 3) := by decide +kernel
theorem dX4_wrongHere_15 : decode cX4_wrongHere 15 = .ok (.aload_n 0, 1) := by decide +kernel
theorem dX4_wrongHere_16 : decode cX4_wrongHere 16 = .ok (.getfield 192, 3) := by decide +kernel
