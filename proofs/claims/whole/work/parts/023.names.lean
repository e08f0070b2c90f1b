theorem dX3_moments_37 : decode cX3_moments 37 = .ok (.iadd, 1) := by decide +kernel
theorem dX3_moments_38 : decode cX3_moments 38 = .ok (.sipush 9999, 3) := by decide +kernel
theorem dX3_moments_41 : decode cX3_moments 41 = .ok (.if_icmp .le 10, 3) := by decide +kernel
theorem dX3_moments_44 : decode cX3_moments 44 = .ok (.aload_n 0, 1) := by decide +kernel
theorem dX3_moments_45 : decode cX3_moments 45 = .ok (.ldc 119, 2) := by decide +kernel
theorem dX3_moments_47 : decode cX3_moments 47 = .ok (.invokevirtual 49, 3) := by decide +kernel
theorem dX3_moments_50 : decode cX3_moments 50 = .ok (.ireturn, 1) := by decide +kernel
theorem dX3_moments_51 : decode cX3_moments 51 = .ok (.aload_n 0, 1) := by decide +kernel
theorem dX3_moments_52 : decode cX3_moments 52 = .ok (.getfield 12, 3) := by decide +kernel
theorem dX3_moments_55 : decode cX3_moments 55 = .ok (.iload_n 1, 1) := by decide +kernel
theorem dX3_moments_56 : decode cX3_moments 56 = .ok (.invokevirtual 120, 3) := by decide +kernel
theorem dX3_moments_59 : decode cX3_moments 59 = .ok (.aload_n 0, 1) := by decide +kernel
theorem dX3_moments_60 : decode cX3_moments 60 = .ok (.getfield 12, 3) := by decide +kernel
theorem dX3_moments_63 : decode cX3_moments 63 = .ok (.getfield 63, 3) := by decide +kernel
theorem dX3_moments_66 : decode cX3_moments 66 = .ok (.ireturn, 1) := by decide +kernel
set_option maxRecDepth 20000 in
theorem ggX3_note_X3_isThere : GoodIn wsX3_note wsX3_isThere := goodIn_r _ [7, 8, 9, 10, 6, 11, 92, 93, 94, 95, 96, 97, 98, 99, 100, 101, 102, 103, 104, 105, 106, 107, 108] (by decide +kernel) (by decide +kernel)
set_option maxRecDepth 20000 in
theorem gX3_note_X3_isThere : GoodIn wsX3_note (wsV RX3 84 RX3 yX3_isThere wsX3_isThere) := goodIn_app (goodIn_of _ (by decide +kernel)) ggX3_note_X3_isThere
set_option maxRecDepth 20000 in
theorem ggX3_note_X3_isIn : GoodIn wsX3_note wsX3_isIn := goodIn_r _ [11] (by decide +kernel) (by decide +kernel)
set_option maxRecDepth 20000 in
theorem gX3_note_X3_isIn : GoodIn wsX3_note (va_wsS RX3 44 yX3_isIn wsX3_isIn) := goodIn_app (goodIn_of _ (by decide +kernel)) ggX3_note_X3_isIn
set_option maxRecDepth 20000 in
theorem ggX3_note_X3_finding : GoodIn wsX3_note wsX3_finding := goodIn_r _ [15, 1, 16, 92, 93, 94, 95, 96, 97, 98] (by decide +kernel) (by decide +kernel)
set_option maxRecDepth 20000 in
theorem gX3_note_X3_finding : GoodIn wsX3_note (wsV RX3 49 RX3 yX3_finding wsX3_finding) := goodIn_app (goodIn_of _ (by decide +kernel)) ggX3_note_X3_finding
set_option maxRecDepth 20000 in
theorem ggX3_note_X3_startTrial : GoodIn wsX3_note wsX3_startTrial := goodIn_r _ [20, 2, 8, 21, 22, 23, 24, 25, 26, 27, 28, 29, 30, 31, 32, 33, 34, 35, 36, 37, 92, 93, 94, 95, 96, 97, 98, 99, 100, 101, 102, 103, 104, 105, 106, 107, 108] (by decide +kernel) (by decide +kernel)
set_option maxRecDepth 20000 in
theorem gX3_note_X3_startTrial : GoodIn wsX3_note (wsV RX3 124 RX3 yX3_startTrial wsX3_startTrial) := goodIn_app (goodIn_of _ (by decide +kernel)) ggX3_note_X3_startTrial
set_option maxRecDepth 20000 in
theorem ggX3_note_X0_goOn : GoodIn wsX3_note wsX0_goOn := goodIn_r _ [40, 41, 42, 43, 22, 44, 28, 26, 27, 45, 36, 34, 37, 46, 47, 48, 49, 50, 51, 52, 53, 54, 55, 56, 57, 58, 59, 60, 61, 35, 33, 62, 63, 64, 65, 66, 6, 67, 68, 69, 70, 71, 72, 73, 74, 75, 76, 77, 78, 79, 80, 81, 82, 83, 84, 85, 86, 87, 88, 89, 25, 90, 91, 99, 100, 101, 102, 103, 104, 105, 106, 107, 108] (by decide +kernel) (by decide +kernel)
set_option maxRecDepth 20000 in
theorem gX3_note_X0_goOn_n120 : GoodIn wsX3_note (wsX0_goOn) := ggX3_note_X0_goOn
theorem dX3_note_0 : decode cX3_note 0 = .ok (.aload_n 0, 1) := by decide +kernel
theorem dX3_note_1 : decode cX3_note 1 = .ok (.iload_n 1, 1) := by decide +kernel
theorem dX3_note_2 : decode cX3_note 2 = .ok (.invokevirtual 84, 3) := by decide +kernel
theorem dX3_note_5 : decode cX3_note 5 = .ok (.ifCond .eq 14, 3) := by decide +kernel
theorem dX3_note_8 : decode cX3_note 8 = .ok (.iload_n 2, 1) := by decide +kernel
theorem dX3_note_9 : decode cX3_note 9 = .ok (.iconst 0, 1) := by decide +kernel
theorem dX3_note_10 : decode cX3_note 10 = .ok (.sipush 400, 3) := by decide +kernel
theorem dX3_note_13 : decode cX3_note 13 = .ok (.invokestatic 44, 3) := by decide +kernel
theorem dX3_note_16 : decode cX3_note 16 = .ok (.ifCond .ne 10, 3) := by decide +kernel
theorem dX3_note_19 : decode cX3_note 19 = .ok (.aload_n 0, 1) := by decide +kernel
theorem dX3_note_20 : decode cX3_note 20 = .ok (.ldc 48, 2) := by decide +kernel
theorem dX3_note_22 : decode cX3_note 22 = .ok (.invokevirtual 49, 3) := by decide +kernel
theorem dX3_note_25 : decode cX3_note 25 = .ok (.ireturn, 1) := by decide +kernel
theorem dX3_note_26 : decode cX3_note 26 = .ok (.aload_n 0, 1) := by decide +kernel
theorem dX3_note_27 : decode cX3_note 27 = .ok (.invokevirtual 124, 3) := by decide +kernel
theorem dX3_note_30 : decode cX3_note 30 = .ok (.aload_n 0, 1) := by decide +kernel
theorem dX3_note_31 : decode cX3_note 31 = .ok (.getfield 16, 3) := by decide +kernel
theorem dX3_note_34 : decode cX3_note 34 = .ok (.iload_n 2, 1) := by decide +kernel
theorem dX3_note_35 : decode cX3_note 35 = .ok (.invokevirtual 120, 3) := by decide +kernel
theorem dX3_note_38 : decode cX3_note 38 = .ok (.aload_n 0, 1) := by decide +kernel
theorem dX3_note_39 : decode cX3_note 39 = .ok (.getfield 16, 3) := by decide +kernel
theorem dX3_note_42 : decode cX3_note 42 = .ok (.getfield 94, 3) := by decide +kernel
theorem dX3_note_45 : decode cX3_note 45 = .ok (.iload_n 1, 1) := by decide +kernel
theorem dX3_note_46 : decode cX3_note 46 = .ok (.iaload, 1) := by decide +kernel
theorem dX3_note_47 : decode cX3_note 47 = .ok (.ireturn, 1) := by decide +kernel
set_option maxRecDepth 20000 in
theorem ggX3_on_X3_isThere : GoodIn wsX3_on wsX3_isThere := goodIn_r _ [7, 8, 9, 10, 6, 11, 92, 93, 94, 95, 96, 97, 98, 99, 100, 101, 102, 103, 104, 105, 106, 107, 108] (by decide +kernel) (by decide +kernel)
set_option maxRecDepth 20000 in
theorem gX3_on_X3_isThere : GoodIn wsX3_on (wsV RX3 84 RX3 yX3_isThere wsX3_isThere) := goodIn_app (goodIn_of _ (by decide +kernel)) ggX3_on_X3_isThere
set_option maxRecDepth 20000 in
theorem ggX3_on_X3_isIn : GoodIn wsX3_on wsX3_isIn := goodIn_r _ [11] (by decide +kernel) (by decide +kernel)
set_option maxRecDepth 20000 in
theorem gX3_on_X3_isIn : GoodIn wsX3_on (va_wsS RX3 44 yX3_isIn wsX3_isIn) := goodIn_app (goodIn_of _ (by decide +kernel)) ggX3_on_X3_isIn
set_option maxRecDepth 20000 in
theorem ggX3_on_X3_finding : GoodIn wsX3_on wsX3_finding := goodIn_r _ [15, 1, 16, 92, 93, 94, 95, 96, 97, 98] (by decide +kernel) (by decide +kernel)
set_option maxRecDepth 20000 in
theorem gX3_on_X3_finding : GoodIn wsX3_on (wsV RX3 49 RX3 yX3_finding wsX3_finding) := goodIn_app (goodIn_of _ (by decide +kernel)) ggX3_on_X3_finding
set_option maxRecDepth 20000 in
theorem ggX3_on_X3_startTrial : GoodIn wsX3_on wsX3_startTrial := goodIn_r _ [20, 2, 8, 21, 22, 23, 24, 25, 26, 27, 28, 29, 30, 31, 32, 33, 34, 35, 36, 37, 92, 93, 94, 95, 96, 97, 98, 99, 100, 101, 102, 103, 104, 105, 106, 107, 108] (by decide +kernel) (by decide +kernel)
set_option maxRecDepth 20000 in
theorem gX3_on_X3_startTrial : GoodIn wsX3_on (wsV RX3 124 RX3 yX3_startTrial wsX3_startTrial) := goodIn_app (goodIn_of _ (by decide +kernel)) ggX3_on_X3_startTrial
set_option maxRecDepth 20000 in
theorem ggX3_on_X0_goOn : GoodIn wsX3_on wsX0_goOn := goodIn_r _ [40, 41, 42, 43, 22, 44, 28, 26, 27, 45, 36, 34, 37, 46, 47, 48, 49, 50, 51, 52, 53, 54, 55, 56, 57, 58, 59, 60, 61, 35, 33, 62, 63, 64, 65, 66, 6, 67, 68, 69, 70, 71, 72, 73, 74, 75, 76, 77, 78, 79, 80, 81, 82, 83, 84, 85, 86, 87, 88, 89, 25, 90, 91, 99, 100, 101, 102, 103, 104, 105, 106, 107, 108] (by decide +kernel) (by decide +kernel)
set_option maxRecDepth 20000 in
theorem gX3_on_X0_goOn_n120 : GoodIn wsX3_on (wsX0_goOn) := ggX3_on_X0_goOn
theorem dX3_on_0 : decode cX3_on 0 = .ok (.aload_n 0, 1) := by decide +kernel
theorem dX3_on_1 : decode cX3_on 1 = .ok (.iload_n 1, 1) := by decide +kernel
theorem dX3_on_2 : decode cX3_on 2 = .ok (.invokevirtual 84, 3) := by decide +kernel
theorem dX3_on_5 : decode cX3_on 5 = .ok (.ifCond .eq 23, 3) := by decide +kernel
theorem dX3_on_8 : decode cX3_on 8 = .ok (.iload_n 2, 1) := by decide +kernel
theorem dX3_on_9 : decode cX3_on 9 = .ok (.iconst 0, 1) := by decide +kernel
theorem dX3_on_10 : decode cX3_on 10 = .ok (.sipush 400, 3) := by decide +kernel
theorem dX3_on_13 : decode cX3_on 13 = .ok (.invokestatic 44, 3) := by decide +kernel
theorem dX3_on_16 : decode cX3_on 16 = .ok (.ifCond .eq 12, 3) := by decide +kernel
theorem dX3_on_19 : decode cX3_on 19 = .ok (.iload_n 3, 1) := by decide +kernel
theorem dX3_on_20 : decode cX3_on 20 = .ok (.iconst 0, 1) := by decide +kernel
theorem dX3_on_21 : decode cX3_on 21 = .ok (.iconst 1, 1) := by decide +kernel
theorem dX3_on_22 : decode cX3_on 22 = .ok (.invokestatic 44, 3) := by decide +kernel
theorem dX3_on_25 : decode cX3_on 25 = .ok (.ifCond .ne 10, 3) := by decide +kernel
theorem dX3_on_28 : decode cX3_on 28 = .ok (.aload_n 0, 1) := by decide +kernel
theorem dX3_on_29 : decode cX3_on 29 = .ok (.ldc 48, 2) := by decide +kernel
theorem dX3_on_31 : decode cX3_on 31 = .ok (.invokevirtual 49, 3) := by decide +kernel
theorem dX3_on_34 : decode cX3_on 34 = .ok (.ireturn, 1) := by decide +kernel
theorem dX3_on_35 : decode cX3_on 35 = .ok (.aload_n 0, 1) := by decide +kernel
theorem dX3_on_36 : decode cX3_on 36 = .ok (.invokevirtual 124, 3) := by decide +kernel
theorem dX3_on_39 : decode cX3_on 39 = .ok (.aload_n 0, 1) := by decide +kernel
theorem dX3_on_40 : decode cX3_on 40 = .ok (.getfield 16, 3) := by decide +kernel
theorem dX3_on_43 : decode cX3_on 43 = .ok (.iload_n 2, 1) := by decide +kernel
theorem dX3_on_44 : decode cX3_on 44 = .ok (.invokevirtual 120, 3) := by decide +kernel
theorem dX3_on_47 : decode cX3_on 47 = .ok (.iload_n 3, 1) := by decide +kernel
theorem dX3_on_48 : decode cX3_on 48 = .ok (.ifCond .ne 15, 3) := by decide +kernel
theorem dX3_on_51 : decode cX3_on 51 = .ok (.aload_n 0, 1) := by decide +kernel
theorem dX3_on_52 : decode cX3_on 52 = .ok (.getfield 16, 3) := by decide +kernel
theorem dX3_on_55 : decode cX3_on 55 = .ok (.getfield 91, 3) := by decide +kernel
theorem dX3_on_58 : decode cX3_on 58 = .ok (.iload_n 1, 1) := by decide +kernel
theorem dX3_on_59 : decode cX3_on 59 = .ok (.iaload, 1) := by decide +kernel
theorem dX3_on_60 : decode cX3_on 60 = .ok (.goto 12, 3) := by decide +kernel
theorem dX3_on_63 : decode cX3_on 63 = .ok (.aload_n 0, 1) := by decide +kernel
theorem dX3_on_64 : decode cX3_on 64 = .ok (.getfield 16, 3) := by decide +kernel
theorem dX3_on_67 : decode cX3_on 67 = .ok (.getfield 97, 3) := by decide +kernel
theorem dX3_on_70 : decode cX3_on 70 = .ok (.iload_n 1, 1) := by decide +kernel
theorem dX3_on_71 : decode cX3_on 71 = .ok (.iaload, 1) := by decide +kernel
theorem dX3_on_72 : decode cX3_on 72 = .ok (.ireturn, 1) := by decide +kernel
set_option maxRecDepth 20000 in
theorem ggX3_house_X3_isIn : GoodIn wsX3_house wsX3_isIn := goodIn_r _ [6] (by decide +kernel) (by decide +kernel)
set_option maxRecDepth 20000 in
theorem gX3_house_X3_isIn : GoodIn wsX3_house (va_wsS RX3 44 yX3_isIn wsX3_isIn) := goodIn_app (goodIn_of _ (by decide +kernel)) ggX3_house_X3_isIn
set_option maxRecDepth 20000 in
theorem ggX3_house_X3_finding : GoodIn wsX3_house wsX3_finding := goodIn_r _ [10, 1, 11, 99, 100, 101, 102, 103, 104, 105] (by decide +kernel) (by decide +kernel)
set_option maxRecDepth 20000 in
theorem gX3_house_X3_finding : GoodIn wsX3_house (wsV RX3 49 RX3 yX3_finding wsX3_finding) := goodIn_app (goodIn_of _ (by decide +kernel)) ggX3_house_X3_finding
set_option maxRecDepth 20000 in
theorem ggX3_house_X3_startTrial : GoodIn wsX3_house wsX3_startTrial := goodIn_r _ [15, 2, 16, 17, 18, 19, 20, 21, 22, 23, 24, 25, 26, 27, 28, 29, 30, 31, 32, 33, 99, 100, 101, 102, 103, 104, 105, 106, 107, 108, 109, 110, 111, 112, 113, 114, 115] (by decide +kernel) (by decide +kernel)
set_option maxRecDepth 20000 in
theorem gX3_house_X3_startTrial : GoodIn wsX3_house (wsV RX3 124 RX3 yX3_startTrial wsX3_startTrial) := goodIn_app (goodIn_of _ (by decide +kernel)) ggX3_house_X3_startTrial
set_option maxRecDepth 20000 in
theorem ggX3_house_X0_allNotesOn : GoodIn wsX3_house wsX0_allNotesOn := goodIn_r _ [36, 37, 38, 39, 18, 40, 41, 42, 43, 44, 24, 22, 23, 45, 32, 30, 33, 46, 47, 48, 49, 50, 51, 52, 53, 54, 55, 56, 57, 58, 59, 60, 61, 31, 29, 62, 63, 64, 65, 66, 5, 67, 68, 69, 70, 71, 72, 73, 74, 75, 76, 77, 78, 79, 80, 81, 82, 83, 84, 85, 86, 87, 88, 89, 21, 90, 91, 92, 93, 94, 95, 96, 97, 98, 106, 107, 108, 109, 110, 111, 112, 113, 114, 115] (by decide +kernel) (by decide +kernel)
set_option maxRecDepth 20000 in
theorem gX3_house_X0_allNotesOn_n127 : GoodIn wsX3_house (wsX0_allNotesOn) := ggX3_house_X0_allNotesOn
theorem dX3_house_0 : decode cX3_house 0 = .ok (.iload_n 1, 1) := by decide +kernel
theorem dX3_house_1 : decode cX3_house 1 = .ok (.iconst 0, 1) := by decide +kernel
theorem dX3_house_2 : decode cX3_house 2 = .ok (.sipush 400, 3) := by decide +kernel
theorem dX3_house_5 : decode cX3_house 5 = .ok (.invokestatic 44, 3) := by decide +kernel
theorem dX3_house_8 : decode cX3_house 8 = .ok (.ifCond .ne 10, 3) := by decide +kernel
theorem dX3_house_11 : decode cX3_house 11 = .ok (.aload_n 0, 1) := by decide +kernel
theorem dX3_house_12 : decode cX3_house 12 = .ok (.ldc 48, 2) := by decide +kernel
theorem dX3_house_14 : decode cX3_house 14 = .ok (.invokevirtual 49, 3) := by decide +kernel
theorem dX3_house_17 : decode cX3_house 17 = .ok (.ireturn, 1) := by decide +kernel
theorem dX3_house_18 : decode cX3_house 18 = .ok (.aload_n 0, 1) := by decide +kernel
theorem dX3_house_19 : decode cX3_house 19 = .ok (.invokevirtual 124, 3) := by decide +kernel
theorem dX3_house_22 : decode cX3_house 22 = .ok (.aload_n 0, 1) := by decide +kernel
theorem dX3_house_23 : decode cX3_house 23 = .ok (.getfield 16, 3) := by decide +kernel
theorem dX3_house_26 : decode cX3_house 26 = .ok (.iload_n 1, 1) := by decide +kernel
theorem dX3_house_27 : decode cX3_house 27 = .ok (.invokevirtual 127, 3) := by decide +kernel
theorem dX3_house_30 : decode cX3_house 30 = .ok (.ireturn, 1) := by decide +kernel
set_option maxRecDepth 20000 in
theorem ggX3_heard_X3_isIn : GoodIn wsX3_heard wsX3_isIn := goodIn_r _ [6] (by decide +kernel) (by decide +kernel)
set_option maxRecDepth 20000 in
theorem gX3_heard_X3_isIn : GoodIn wsX3_heard (va_wsS RX3 44 yX3_isIn wsX3_isIn) := goodIn_app (goodIn_of _ (by decide +kernel)) ggX3_heard_X3_isIn
set_option maxRecDepth 20000 in
theorem ggX3_heard_X3_finding : GoodIn wsX3_heard wsX3_finding := goodIn_r _ [10, 1, 11, 91, 92, 93, 94, 95, 96, 97] (by decide +kernel) (by decide +kernel)
set_option maxRecDepth 20000 in
theorem gX3_heard_X3_finding : GoodIn wsX3_heard (wsV RX3 49 RX3 yX3_finding wsX3_finding) := goodIn_app (goodIn_of _ (by decide +kernel)) ggX3_heard_X3_finding
set_option maxRecDepth 20000 in
theorem ggX3_heard_X3_startTrial : GoodIn wsX3_heard wsX3_startTrial := goodIn_r _ [15, 2, 16, 17, 18, 19, 20, 21, 22, 23, 24, 25, 26, 27, 28, 29, 30, 31, 32, 33, 91, 92, 93, 94, 95, 96, 97, 98, 99, 100, 101, 102, 103, 104, 105, 106, 107] (by decide +kernel) (by decide +kernel)
set_option maxRecDepth 20000 in
theorem gX3_heard_X3_startTrial : GoodIn wsX3_heard (wsV RX3 124 RX3 yX3_startTrial wsX3_startTrial) := goodIn_app (goodIn_of _ (by decide +kernel)) ggX3_heard_X3_startTrial
set_option maxRecDepth 20000 in
theorem ggX3_heard_X0_goOn : GoodIn wsX3_heard wsX0_goOn := goodIn_r _ [36, 37, 38, 39, 18, 40, 24, 22, 23, 41, 32, 30, 33, 42, 43, 44, 45, 46, 47, 48, 49, 50, 51, 52, 53, 54, 55, 56, 57, 31, 29, 58, 59, 60, 61, 62, 5, 63, 64, 65, 66, 67, 68, 69, 70, 71, 72, 73, 74, 75, 76, 77, 78, 79, 80, 81, 82, 83, 84, 85, 21, 86, 87, 98, 99, 100, 101, 102, 103, 104, 105, 106, 107] (by decide +kernel) (by decide +kernel)
set_option maxRecDepth 20000 in
theorem gX3_heard_X0_goOn_n120 : GoodIn wsX3_heard (wsX0_goOn) := ggX3_heard_X0_goOn
set_option maxRecDepth 20000 in
theorem ggX3_heard_X0_howManyDo : GoodIn wsX3_heard wsX0_howManyDo := goodIn_r _ [90, 23, 42, 43, 44, 18, 45, 30, 24, 22, 46, 47, 48, 49, 50, 51, 52, 53, 33, 54, 55, 56, 57, 31, 29, 58, 59, 60, 61, 98, 99, 100, 101, 102, 103, 104, 105, 106, 107] (by decide +kernel) (by decide +kernel)
set_option maxRecDepth 20000 in
theorem gX3_heard_X0_howManyDo_n130 : GoodIn wsX3_heard (wsX0_howManyDo) := ggX3_heard_X0_howManyDo
theorem dX3_heard_0 : decode cX3_heard 0 = .ok (.iload_n 1, 1) := by decide +kernel
theorem dX3_heard_1 : decode cX3_heard 1 = .ok (.iconst 1, 1) := by decide +kernel
theorem dX3_heard_2 : decode cX3_heard 2 = .ok (.sipush 400, 3) := by decide +kernel
theorem dX3_heard_5 : decode cX3_heard 5 = .ok (.invokestatic 44, 3) := by decide +kernel
theorem dX3_heard_8 : decode cX3_heard 8 = .ok (.ifCond .eq 12, 3) := by decide +kernel
theorem dX3_heard_11 : decode cX3_heard 11 = .ok (.iload_n 2, 1) := by decide +kernel
theorem dX3_heard_12 : decode cX3_heard 12 = .ok (.iconst 0, 1) := by decide +kernel
theorem dX3_heard_13 : decode cX3_heard 13 = .ok (.iconst 4, 1) := by decide +kernel
theorem dX3_heard_14 : decode cX3_heard 14 = .ok (.invokestatic 44, 3) := by decide +kernel
theorem dX3_heard_17 : decode cX3_heard 17 = .ok (.ifCond .ne 10, 3) := by decide +kernel
theorem dX3_heard_20 : decode cX3_heard 20 = .ok (.aload_n 0, 1) := by decide +kernel
theorem dX3_heard_21 : decode cX3_heard 21 = .ok (.ldc 48, 2) := by decide +kernel
theorem dX3_heard_23 : decode cX3_heard 23 = .ok (.invokevirtual 49, 3) := by decide +kernel
theorem dX3_heard_26 : decode cX3_heard 26 = .ok (.ireturn, 1) := by decide +kernel
theorem dX3_heard_27 : decode cX3_heard 27 = .ok (.aload_n 0, 1) := by decide +kernel
theorem dX3_heard_28 : decode cX3_heard 28 = .ok (.invokevirtual 124, 3) := by decide +kernel
theorem dX3_heard_31 : decode cX3_heard 31 = .ok (.aload_n 0, 1) := by decide +kernel
theorem dX3_heard_32 : decode cX3_heard 32 = .ok (.getfield 16, 3) := by decide +kernel
theorem dX3_heard_35 : decode cX3_heard 35 = .ok (.iload_n 1, 1) := by decide +kernel
theorem dX3_heard_36 : decode cX3_heard 36 = .ok (.iconst 1, 1) := by decide +kernel
theorem dX3_heard_37 : decode cX3_heard 37 = .ok (.isub, 1) := by decide +kernel
theorem dX3_heard_38 : decode cX3_heard 38 = .ok (.invokevirtual 120, 3) := by decide +kernel
theorem dX3_heard_41 : decode cX3_heard 41 = .ok (.aload_n 0, 1) := by decide +kernel
theorem dX3_heard_42 : decode cX3_heard 42 = .ok (.getfield 16, 3) := by decide +kernel
theorem dX3_heard_45 : decode cX3_heard 45 = .ok (.iload_n 2, 1) := by decide +kernel
theorem dX3_heard_46 : decode cX3_heard 46 = .ok (.invokevirtual 130, 3) := by decide +kernel
theorem dX3_heard_49 : decode cX3_heard 49 = .ok (.ireturn, 1) := by decide +kernel
set_option maxRecDepth 20000 in
theorem ggX3_does_X3_isThere : GoodIn wsX3_does wsX3_isThere := goodIn_r _ [8, 9, 10, 11, 7, 12, 89, 90, 91, 92, 93, 94, 95, 96, 97, 98, 99, 100, 101, 102, 103, 104, 105] (by decide +kernel) (by decide +kernel)
set_option maxRecDepth 20000 in
theorem gX3_does_X3_isThere : GoodIn wsX3_does (wsV RX3 84 RX3 yX3_isThere wsX3_isThere) := goodIn_app (goodIn_of _ (by decide +kernel)) ggX3_does_X3_isThere
set_option maxRecDepth 20000 in
theorem ggX3_does_X3_isIn : GoodIn wsX3_does wsX3_isIn := goodIn_r _ [12] (by decide +kernel) (by decide +kernel)
set_option maxRecDepth 20000 in
theorem gX3_does_X3_isIn : GoodIn wsX3_does (va_wsS RX3 44 yX3_isIn wsX3_isIn) := goodIn_app (goodIn_of _ (by decide +kernel)) ggX3_does_X3_isIn
set_option maxRecDepth 20000 in
theorem ggX3_does_X3_finding : GoodIn wsX3_does wsX3_finding := goodIn_r _ [16, 1, 17, 89, 90, 91, 92, 93, 94, 95] (by decide +kernel) (by decide +kernel)
set_option maxRecDepth 20000 in
theorem gX3_does_X3_finding : GoodIn wsX3_does (wsV RX3 49 RX3 yX3_finding wsX3_finding) := goodIn_app (goodIn_of _ (by decide +kernel)) ggX3_does_X3_finding
set_option maxRecDepth 20000 in
theorem ggX3_does_X3_startTrial : GoodIn wsX3_does wsX3_startTrial := goodIn_r _ [21, 2, 9, 22, 23, 24, 25, 26, 27, 28, 29, 30, 31, 32, 33, 34, 35, 36, 37, 38, 89, 90, 91, 92, 93, 94, 95, 96, 97, 98, 99, 100, 101, 102, 103, 104, 105] (by decide +kernel) (by decide +kernel)
set_option maxRecDepth 20000 in
theorem gX3_does_X3_startTrial : GoodIn wsX3_does (wsV RX3 124 RX3 yX3_startTrial wsX3_startTrial) := goodIn_app (goodIn_of _ (by decide +kernel)) ggX3_does_X3_startTrial
set_option maxRecDepth 20000 in
theorem ggX3_does_X0_deedOf : GoodIn wsX3_does wsX0_deedOf := goodIn_r _ [41, 35, 29, 27, 42, 43, 44, 23, 45, 46, 47, 48, 49, 38, 28, 50, 51, 52, 53, 36, 34, 54, 55, 56, 57, 96, 97, 98, 99, 100, 101, 102, 103, 104, 105] (by decide +kernel) (by decide +kernel)
set_option maxRecDepth 20000 in
theorem gX3_does_X0_deedOf_n100 : GoodIn wsX3_does (wsX0_deedOf) := ggX3_does_X0_deedOf
set_option maxRecDepth 20000 in
theorem ggX3_does_X0_go : GoodIn wsX3_does wsX0_go := goodIn_r _ [60, 29, 27, 28, 61, 37, 35, 38, 62, 39, 40, 23, 41, 42, 43, 44, 45, 46, 47, 48, 49, 50, 51, 52, 53, 36, 34, 54, 55, 56, 57, 63, 7, 64, 65, 66, 67, 68, 69, 70, 71, 72, 73, 74, 75, 76, 77, 78, 79, 80, 81, 82, 83, 84, 85, 86, 26, 87, 88, 96, 97, 98, 99, 100, 101, 102, 103, 104, 105] (by decide +kernel) (by decide +kernel)
set_option maxRecDepth 20000 in
theorem gX3_does_X0_go_n133 : GoodIn wsX3_does (wsX0_go) := ggX3_does_X0_go
theorem dX3_does_0 : decode cX3_does 0 = .ok (.aload_n 0, 1) := by decide +kernel
theorem dX3_does_1 : decode cX3_does 1 = .ok (.iload_n 1, 1) := by decide +kernel
theorem dX3_does_2 : decode cX3_does 2 = .ok (.invokevirtual 84, 3) := by decide +kernel
theorem dX3_does_5 : decode cX3_does 5 = .ok (.ifCond .eq 12, 3) := by decide +kernel
theorem dX3_does_8 : decode cX3_does 8 = .ok (.iload_n 2, 1) := by decide +kernel
theorem dX3_does_9 : decode cX3_does 9 = .ok (.iconst 0, 1) := by decide +kernel
theorem dX3_does_10 : decode cX3_does 10 = .ok (.iconst 4, 1) := by decide +kernel
theorem dX3_does_11 : decode cX3_does 11 = .ok (.invokestatic 44, 3) := by decide +kernel
theorem dX3_does_14 : decode cX3_does 14 = .ok (.ifCond .ne 10, 3) := by decide +kernel
theorem dX3_does_17 : decode cX3_does 17 = .ok (.aload_n 0, 1) := by decide +kernel
theorem dX3_does_18 : decode cX3_does 18 = .ok (.ldc 48, 2) := by decide +kernel
theorem dX3_does_20 : decode cX3_does 20 = .ok (.invokevirtual 49, 3) := by decide +kernel
theorem dX3_does_23 : decode cX3_does 23 = .ok (.ireturn, 1) := by decide +kernel
theorem dX3_does_24 : decode cX3_does 24 = .ok (.aload_n 0, 1) := by decide +kernel
theorem dX3_does_25 : decode cX3_does 25 = .ok (.invokevirtual 124, 3) := by decide +kernel
theorem dX3_does_28 : decode cX3_does 28 = .ok (.iconst 1, 1) := by decide +kernel
theorem dX3_does_29 : decode cX3_does 29 = .ok (.istore_n 3, 1) := by decide +kernel
theorem dX3_does_30 : decode cX3_does 30 = .ok (.iload_n 3, 1) := by decide +kernel
theorem dX3_does_31 : decode cX3_does 31 = .ok (.sipush 400, 3) := by decide +kernel
theorem dX3_does_34 : decode cX3_does 34 = .ok (.if_icmp .gt 30, 3) := by decide +kernel
theorem dX3_does_37 : decode cX3_does 37 = .ok (.aload_n 0, 1) := by decide +kernel
theorem dX3_does_38 : decode cX3_does 38 = .ok (.getfield 16, 3) := by decide +kernel
theorem dX3_does_41 : decode cX3_does 41 = .ok (.iload_n 1, 1) := by decide +kernel
theorem dX3_does_42 : decode cX3_does 42 = .ok (.invokevirtual 100, 3) := by decide +kernel
theorem dX3_does_45 : decode cX3_does 45 = .ok (.iload_n 2, 1) := by decide +kernel
theorem dX3_does_46 : decode cX3_does 46 = .ok (.if_icmp .ne 5, 3) := by decide +kernel
theorem dX3_does_49 : decode cX3_does 49 = .ok (.iload_n 3, 1) := by decide +kernel
theorem dX3_does_50 : decode cX3_does 50 = .ok (.ireturn, 1) := by decide +kernel
theorem dX3_does_51 : decode cX3_does 51 = .ok (.aload_n 0, 1) := by decide +kernel
theorem dX3_does_52 : decode cX3_does 52 = .ok (.getfield 16, 3) := by decide +kernel
theorem dX3_does_55 : decode cX3_does 55 = .ok (.invokevirtual 133, 3) := by decide +kernel
theorem dX3_does_58 : decode cX3_does 58 = .ok (.iinc 3 1, 3) := by decide +kernel
theorem dX3_does_61 : decode cX3_does 61 = .ok (.goto (-31), 3) := by decide +kernel
theorem dX3_does_64 : decode cX3_does 64 = .ok (.aload_n 0, 1) := by decide +kernel
theorem dX3_does_65 : decode cX3_does 65 = .ok (.ldc 136, 2) := by decide +kernel
theorem dX3_does_67 : decode cX3_does 67 = .ok (.invokevirtual 49, 3) := by decide +kernel
theorem dX3_does_70 : decode cX3_does 70 = .ok (.ireturn, 1) := by decide +kernel
set_option maxRecDepth 20000 in
theorem ggX3_comes_X3_isThere : GoodIn wsX3_comes wsX3_isThere := goodIn_r _ [8, 9, 10, 11, 7, 12, 89, 90, 91, 92, 93, 94, 95, 96, 97, 98, 99, 100, 101, 102, 103, 104, 105] (by decide +kernel) (by decide +kernel)
set_option maxRecDepth 20000 in
theorem gX3_comes_X3_isThere : GoodIn wsX3_comes (wsV RX3 84 RX3 yX3_isThere wsX3_isThere) := goodIn_app (goodIn_of _ (by decide +kernel)) ggX3_comes_X3_isThere
set_option maxRecDepth 20000 in
theorem ggX3_comes_X3_isIn : GoodIn wsX3_comes wsX3_isIn := goodIn_r _ [12] (by decide +kernel) (by decide +kernel)
set_option maxRecDepth 20000 in
theorem gX3_comes_X3_isIn : GoodIn wsX3_comes (va_wsS RX3 44 yX3_isIn wsX3_isIn) := goodIn_app (goodIn_of _ (by decide +kernel)) ggX3_comes_X3_isIn
set_option maxRecDepth 20000 in
theorem ggX3_comes_X3_finding : GoodIn wsX3_comes wsX3_finding := goodIn_r _ [16, 1, 17, 89, 90, 91, 92, 93, 94, 95] (by decide +kernel) (by decide +kernel)
set_option maxRecDepth 20000 in
theorem gX3_comes_X3_finding : GoodIn wsX3_comes (wsV RX3 49 RX3 yX3_finding wsX3_finding) := goodIn_app (goodIn_of _ (by decide +kernel)) ggX3_comes_X3_finding
set_option maxRecDepth 20000 in
theorem ggX3_comes_X3_startTrial : GoodIn wsX3_comes wsX3_startTrial := goodIn_r _ [21, 2, 9, 22, 23, 24, 25, 26, 27, 28, 29, 30, 31, 32, 33, 34, 35, 36, 37, 38, 89, 90, 91, 92, 93, 94, 95, 96, 97, 98, 99, 100, 101, 102, 103, 104, 105] (by decide +kernel) (by decide +kernel)
set_option maxRecDepth 20000 in
theorem gX3_comes_X3_startTrial : GoodIn wsX3_comes (wsV RX3 124 RX3 yX3_startTrial wsX3_startTrial) := goodIn_app (goodIn_of _ (by decide +kernel)) ggX3_comes_X3_startTrial
set_option maxRecDepth 20000 in
theorem ggX3_comes_X0_go : GoodIn wsX3_comes wsX0_go := goodIn_r _ [41, 29, 27, 28, 42, 37, 35, 38, 43, 44, 45, 23, 46, 47, 48, 49, 50, 51, 52, 53, 54, 55, 56, 57, 58, 36, 34, 59, 60, 61, 62, 63, 7, 64, 65, 66, 67, 68, 69, 70, 71, 72, 73, 74, 75, 76, 77, 78, 79, 80, 81, 82, 83, 84, 85, 86, 26, 87, 88, 96, 97, 98, 99, 100, 101, 102, 103, 104, 105] (by decide +kernel) (by decide +kernel)
set_option maxRecDepth 20000 in
theorem gX3_comes_X0_go_n133 : GoodIn wsX3_comes (wsX0_go) := ggX3_comes_X0_go
theorem dX3_comes_0 : decode cX3_comes 0 = .ok (.aload_n 0, 1) := by decide +kernel
theorem dX3_comes_1 : decode cX3_comes 1 = .ok (.iload_n 1, 1) := by decide +kernel
theorem dX3_comes_2 : decode cX3_comes 2 = .ok (.invokevirtual 84, 3) := by decide +kernel
theorem dX3_comes_5 : decode cX3_comes 5 = .ok (.ifCond .eq 16, 3) := by decide +kernel
theorem dX3_comes_8 : decode cX3_comes 8 = .ok (.iload_n 2, 1) := by decide +kernel
theorem dX3_comes_9 : decode cX3_comes 9 = .ok (.sipush (-9999), 3) := by decide +kernel
theorem dX3_comes_12 : decode cX3_comes 12 = .ok (.sipush 9999, 3) := by decide +kernel
theorem dX3_comes_15 : decode cX3_comes 15 = .ok (.invokestatic 44, 3) := by decide +kernel
theorem dX3_comes_18 : decode cX3_comes 18 = .ok (.ifCond .ne 10, 3) := by decide +kernel
theorem dX3_comes_21 : decode cX3_comes 21 = .ok (.aload_n 0, 1) := by decide +kernel
theorem dX3_comes_22 : decode cX3_comes 22 = .ok (.ldc 48, 2) := by decide +kernel
theorem dX3_comes_24 : decode cX3_comes 24 = .ok (.invokevirtual 49, 3) := by decide +kernel
theorem dX3_comes_27 : decode cX3_comes 27 = .ok (.ireturn, 1) := by decide +kernel
theorem dX3_comes_28 : decode cX3_comes 28 = .ok (.aload_n 0, 1) := by decide +kernel
theorem dX3_comes_29 : decode cX3_comes 29 = .ok (.invokevirtual 124, 3) := by decide +kernel
theorem dX3_comes_32 : decode cX3_comes 32 = .ok (.iconst 0, 1) := by decide +kernel
theorem dX3_comes_33 : decode cX3_comes 33 = .ok (.istore_n 3, 1) := by decide +kernel
theorem dX3_comes_34 : decode cX3_comes 34 = .ok (.iload_n 3, 1) := by decide +kernel
theorem dX3_comes_35 : decode cX3_comes 35 = .ok (.sipush 400, 3) := by decide +kernel
theorem dX3_comes_38 : decode cX3_comes 38 = .ok (.if_icmp .gt 31, 3) := by decide +kernel
theorem dX3_comes_41 : decode cX3_comes 41 = .ok (.aload_n 0, 1) := by decide +kernel
theorem dX3_comes_42 : decode cX3_comes 42 = .ok (.getfield 16, 3) := by decide +kernel
theorem dX3_comes_45 : decode cX3_comes 45 = .ok (.getfield 94, 3) := by decide +kernel
theorem dX3_comes_48 : decode cX3_comes 48 = .ok (.iload_n 1, 1) := by decide +kernel
theorem dX3_comes_49 : decode cX3_comes 49 = .ok (.iaload, 1) := by decide +kernel
theorem dX3_comes_50 : decode cX3_comes 50 = .ok (.iload_n 2, 1) := by decide +kernel
theorem dX3_comes_51 : decode cX3_comes 51 = .ok (.if_icmp .lt 5, 3) := by decide +kernel
theorem dX3_comes_54 : decode cX3_comes 54 = .ok (.iload_n 3, 1) := by decide +kernel
theorem dX3_comes_55 : decode cX3_comes 55 = .ok (.ireturn, 1) := by decide +kernel
theorem dX3_comes_56 : decode cX3_comes 56 = .ok (.aload_n 0, 1) := by decide +kernel
theorem dX3_comes_57 : decode cX3_comes 57 = .ok (.getfield 16, 3) := by decide +kernel
theorem dX3_comes_60 : decode cX3_comes 60 = .ok (.invokevirtual 133, 3) := by decide +kernel
theorem dX3_comes_63 : decode cX3_comes 63 = .ok (.iinc 3 1, 3) := by decide +kernel
theorem dX3_comes_66 : decode cX3_comes 66 = .ok (.goto (-32), 3) := by decide +kernel
theorem dX3_comes_69 : decode cX3_comes 69 = .ok (.aload_n 0, 1) := by decide +kernel
theorem dX3_comes_70 : decode cX3_comes 70 = .ok (.ldc 136, 2) := by decide +kernel
theorem dX3_comes_72 : decode cX3_comes 72 = .ok (.invokevirtual 49, 3) := by decide +kernel
theorem dX3_comes_75 : decode cX3_comes 75 = .ok (.ireturn, 1) := by decide +kernel
set_option maxRecDepth 20000 in
theorem ggX3_place_X3_isThere : GoodIn wsX3_place wsX3_isThere := goodIn_r _ [9, 3, 10, 11, 8, 12, 110, 111, 112, 113, 114, 115, 116, 117, 118, 119, 120, 121, 122, 123, 124, 125, 126] (by decide +kernel) (by decide +kernel)
set_option maxRecDepth 20000 in
theorem gX3_place_X3_isThere : GoodIn wsX3_place (wsV RX3 84 RX3 yX3_isThere wsX3_isThere) := goodIn_app (goodIn_of _ (by decide +kernel)) ggX3_place_X3_isThere
set_option maxRecDepth 20000 in
theorem ggX3_place_X3_isIn : GoodIn wsX3_place wsX3_isIn := goodIn_r _ [12] (by decide +kernel) (by decide +kernel)
set_option maxRecDepth 20000 in
theorem gX3_place_X3_isIn : GoodIn wsX3_place (va_wsS RX3 44 yX3_isIn wsX3_isIn) := goodIn_app (goodIn_of _ (by decide +kernel)) ggX3_place_X3_isIn
set_option maxRecDepth 20000 in
theorem ggX3_place_X3_finding : GoodIn wsX3_place wsX3_finding := goodIn_r _ [16, 1, 17, 110, 111, 112, 113, 114, 115, 116] (by decide +kernel) (by decide +kernel)
set_option maxRecDepth 20000 in
theorem gX3_place_X3_finding : GoodIn wsX3_place (wsV RX3 49 RX3 yX3_finding wsX3_finding) := goodIn_app (goodIn_of _ (by decide +kernel)) ggX3_place_X3_finding
set_option maxRecDepth 20000 in
theorem ggX3_place_X3_startTrial : GoodIn wsX3_place wsX3_startTrial := goodIn_r _ [21, 2, 3, 22, 23, 24, 25, 26, 27, 28, 29, 30, 31, 32, 33, 34, 35, 36, 37, 38, 110, 111, 112, 113, 114, 115, 116, 117, 118, 119, 120, 121, 122, 123, 124, 125, 126] (by decide +kernel) (by decide +kernel)
set_option maxRecDepth 20000 in
theorem gX3_place_X3_startTrial : GoodIn wsX3_place (wsV RX3 124 RX3 yX3_startTrial wsX3_startTrial) := goodIn_app (goodIn_of _ (by decide +kernel)) ggX3_place_X3_startTrial
set_option maxRecDepth 20000 in
theorem ggX3_place_X0_allNotesOn : GoodIn wsX3_place wsX0_allNotesOn := goodIn_r _ [41, 42, 43, 44, 23, 45, 46, 47, 48, 49, 29, 27, 28, 50, 37, 35, 38, 51, 52, 53, 54, 55, 56, 57, 58, 59, 60, 61, 62, 63, 64, 65, 66, 36, 34, 67, 68, 69, 70, 71, 8, 72, 73, 74, 75, 76, 77, 78, 79, 80, 81, 82, 83, 84, 85, 86, 87, 88, 89, 90, 91, 92, 93, 94, 26, 95, 96, 97, 98, 99, 100, 101, 102, 103, 117, 118, 119, 120, 121, 122, 123, 124, 125, 126] (by decide +kernel) (by decide +kernel)
set_option maxRecDepth 20000 in
theorem gX3_place_X0_allNotesOn_n127 : GoodIn wsX3_place (wsX0_allNotesOn) := ggX3_place_X0_allNotesOn
set_option maxRecDepth 20000 in
theorem ggX3_place_X0_changeSeats : GoodIn wsX3_place wsX0_changeSeats := goodIn_r _ [106, 35, 36, 37, 38, 107, 108, 23, 109, 117, 118, 119, 120, 121, 122, 123, 124, 125, 126] (by decide +kernel) (by decide +kernel)
set_option maxRecDepth 20000 in
theorem gX3_place_X0_changeSeats_n115 : GoodIn wsX3_place (wsX0_changeSeats) := ggX3_place_X0_changeSeats
theorem dX3_place_0 : decode cX3_place 0 = .ok (.aload_n 0, 1) := by decide +kernel
theorem dX3_place_1 : decode cX3_place 1 = .ok (.iload_n 1, 1) := by decide +kernel
theorem dX3_place_2 : decode cX3_place 2 = .ok (.invokevirtual 84, 3) := by decide +kernel
theorem dX3_place_5 : decode cX3_place 5 = .ok (.ifCond .eq 13, 3) := by decide +kernel
theorem dX3_place_8 : decode cX3_place 8 = .ok (.iload_n 2, 1) := by decide +kernel
theorem dX3_place_9 : decode cX3_place 9 = .ok (.iconst 1, 1) := by decide +kernel
theorem dX3_place_10 : decode cX3_place 10 = .ok (.bipush 100, 2) := by decide +kernel
theorem dX3_place_12 : decode cX3_place 12 = .ok (.invokestatic 44, 3) := by decide +kernel
theorem dX3_place_15 : decode cX3_place 15 = .ok (.ifCond .ne 10, 3) := by decide +kernel
theorem dX3_place_18 : decode cX3_place 18 = .ok (.aload_n 0, 1) := by decide +kernel
theorem dX3_place_19 : decode cX3_place 19 = .ok (.ldc 48, 2) := by decide +kernel
theorem dX3_place_21 : decode cX3_place 21 = .ok (.invokevirtual 49, 3) := by decide +kernel
theorem dX3_place_24 : decode cX3_place 24 = .ok (.ireturn, 1) := by decide +kernel
theorem dX3_place_25 : decode cX3_place 25 = .ok (.aload_n 0, 1) := by decide +kernel
theorem dX3_place_26 : decode cX3_place 26 = .ok (.invokevirtual 124, 3) := by decide +kernel
theorem dX3_place_29 : decode cX3_place 29 = .ok (.aload_n 0, 1) := by decide +kernel
theorem dX3_place_30 : decode cX3_place 30 = .ok (.getfield 16, 3) := by decide +kernel
theorem dX3_place_33 : decode cX3_place 33 = .ok (.iload_n 2, 1) := by decide +kernel
theorem dX3_place_34 : decode cX3_place 34 = .ok (.invokevirtual 127, 3) := by decide +kernel
theorem dX3_place_37 : decode cX3_place 37 = .ok (.istore_n 3, 1) := by decide +kernel
theorem dX3_place_38 : decode cX3_place 38 = .ok (.iconst (-1), 1) := by decide +kernel
theorem dX3_place_39 : decode cX3_place 39 = .ok (.istore 4, 2) := by decide +kernel
theorem dX3_place_41 : decode cX3_place 41 = .ok (.iconst 0, 1) := by decide +kernel
theorem dX3_place_42 : decode cX3_place 42 = .ok (.istore 5, 2) := by decide +kernel
theorem dX3_place_44 : decode cX3_place 44 = .ok (.iload 5, 2) := by decide +kernel
theorem dX3_place_46 : decode cX3_place 46 = .ok (.aload_n 0, 1) := by decide +kernel
theorem dX3_place_47 : decode cX3_place 47 = .ok (.getfield 12, 3) := by decide +kernel
theorem dX3_place_50 : decode cX3_place 50 = .ok (.getfield 76, 3) := by decide +kernel
theorem dX3_place_53 : decode cX3_place 53 = .ok (.if_icmp .ge 55, 3) := by decide +kernel
theorem dX3_place_56 : decode cX3_place 56 = .ok (.iload 5, 2) := by decide +kernel
theorem dX3_place_58 : decode cX3_place 58 = .ok (.iload_n 1, 1) := by decide +kernel
theorem dX3_place_59 : decode cX3_place 59 = .ok (.if_icmp .ne 6, 3) := by decide +kernel
theorem dX3_place_62 : decode cX3_place 62 = .ok (.goto 40, 3) := by decide +kernel
theorem dX3_place_65 : decode cX3_place 65 = .ok (.aload_n 0, 1) := by decide +kernel
theorem dX3_place_66 : decode cX3_place 66 = .ok (.invokevirtual 124, 3) := by decide +kernel
theorem dX3_place_69 : decode cX3_place 69 = .ok (.aload_n 0, 1) := by decide +kernel
theorem dX3_place_70 : decode cX3_place 70 = .ok (.getfield 16, 3) := by decide +kernel
theorem dX3_place_73 : decode cX3_place 73 = .ok (.iload_n 1, 1) := by decide +kernel
theorem dX3_place_74 : decode cX3_place 74 = .ok (.iload 5, 2) := by decide +kernel
theorem dX3_place_76 : decode cX3_place 76 = .ok (.invokevirtual 115, 3) := by decide +kernel
theorem dX3_place_79 : decode cX3_place 79 = .ok (.aload_n 0, 1) := by decide +kernel
theorem dX3_place_80 : decode cX3_place 80 = .ok (.getfield 16, 3) := by decide +kernel
theorem dX3_place_83 : decode cX3_place 83 = .ok (.iload_n 2, 1) := by decide +kernel
theorem dX3_place_84 : decode cX3_place 84 = .ok (.invokevirtual 127, 3) := by decide +kernel
theorem dX3_place_87 : decode cX3_place 87 = .ok (.istore 6, 2) := by decide +kernel
theorem dX3_place_89 : decode cX3_place 89 = .ok (.iload 6, 2) := by decide +kernel
theorem dX3_place_91 : decode cX3_place 91 = .ok (.iload_n 3, 1) := by decide +kernel
theorem dX3_place_92 : decode cX3_place 92 = .ok (.if_icmp .le 10, 3) := by decide +kernel
theorem dX3_place_95 : decode cX3_place 95 = .ok (.iload 6, 2) := by decide +kernel
theorem dX3_place_97 : decode cX3_place 97 = .ok (.istore_n 3, 1) := by decide +kernel
theorem dX3_place_98 : decode cX3_place 98 = .ok (.iload 5, 2) := by decide +kernel
theorem dX3_place_100 : decode cX3_place 100 = .ok (.istore 4, 2) := by decide +kernel
theorem dX3_place_102 : decode cX3_place 102 = .ok (.iinc 5 1, 3) := by decide +kernel
theorem dX3_place_105 : decode cX3_place 105 = .ok (.goto (-61), 3) := by decide +kernel
theorem dX3_place_108 : decode cX3_place 108 = .ok (.iload 4, 2) := by decide +kernel
theorem dX3_place_110 : decode cX3_place 110 = .ok (.ifCond .ge 12, 3) := by decide +kernel
theorem dX3_place_113 : decode cX3_place 113 = .ok (.aload_n 0, 1) := by decide +kernel
theorem dX3_place_114 : decode cX3_place 114 = .ok (.ldc 136, 2) := by decide +kernel
theorem dX3_place_116 : decode cX3_place 116 = .ok (.invokevirtual 49, 3) := by decide +kernel
theorem dX3_place_119 : decode cX3_place 119 = .ok (.goto 5, 3) := by decide +kernel
theorem dX3_place_122 : decode cX3_place 122 = .ok (.iload 4, 2) := by decide +kernel
theorem dX3_place_124 : decode cX3_place 124 = .ok (.ireturn, 1) := by decide +kernel
set_option maxRecDepth 20000 in
theorem ggX3_kind_X3_isThere : GoodIn wsX3_kind wsX3_isThere := goodIn_r _ [7, 8, 9, 10, 6, 11, 92, 93, 94, 95, 96, 97, 98, 99, 100, 101, 102, 103, 104, 105, 106, 107, 108] (by decide +kernel) (by decide +kernel)
set_option maxRecDepth 20000 in
theorem gX3_kind_X3_isThere : GoodIn wsX3_kind (wsV RX3 84 RX3 yX3_isThere wsX3_isThere) := goodIn_app (goodIn_of _ (by decide +kernel)) ggX3_kind_X3_isThere
set_option maxRecDepth 20000 in
theorem ggX3_kind_X3_isIn : GoodIn wsX3_kind wsX3_isIn := goodIn_r _ [11] (by decide +kernel) (by decide +kernel)
set_option maxRecDepth 20000 in
theorem gX3_kind_X3_isIn : GoodIn wsX3_kind (va_wsS RX3 44 yX3_isIn wsX3_isIn) := goodIn_app (goodIn_of _ (by decide +kernel)) ggX3_kind_X3_isIn
set_option maxRecDepth 20000 in
theorem ggX3_kind_X3_finding : GoodIn wsX3_kind wsX3_finding := goodIn_r _ [15, 1, 16, 92, 93, 94, 95, 96, 97, 98] (by decide +kernel) (by decide +kernel)
set_option maxRecDepth 20000 in
theorem gX3_kind_X3_finding : GoodIn wsX3_kind (wsV RX3 49 RX3 yX3_finding wsX3_finding) := goodIn_app (goodIn_of _ (by decide +kernel)) ggX3_kind_X3_finding
set_option maxRecDepth 20000 in
theorem ggX3_kind_X3_startTrial : GoodIn wsX3_kind wsX3_startTrial := goodIn_r _ [20, 2, 8, 21, 22, 23, 24, 25, 26, 27, 28, 29, 30, 31, 32, 33, 34, 35, 36, 37, 92, 93, 94, 95, 96, 97, 98, 99, 100, 101, 102, 103, 104, 105, 106, 107, 108] (by decide +kernel) (by decide +kernel)
set_option maxRecDepth 20000 in
theorem gX3_kind_X3_startTrial : GoodIn wsX3_kind (wsV RX3 124 RX3 yX3_startTrial wsX3_startTrial) := goodIn_app (goodIn_of _ (by decide +kernel)) ggX3_kind_X3_startTrial
set_option maxRecDepth 20000 in
theorem ggX3_kind_X0_goOn : GoodIn wsX3_kind wsX0_goOn := goodIn_r _ [40, 41, 42, 43, 22, 44, 28, 26, 27, 45, 36, 34, 37, 46, 47, 48, 49, 50, 51, 52, 53, 54, 55, 56, 57, 58, 59, 60, 61, 35, 33, 62, 63, 64, 65, 66, 6, 67, 68, 69, 70, 71, 72, 73, 74, 75, 76, 77, 78, 79, 80, 81, 82, 83, 84, 85, 86, 87, 88, 89, 25, 90, 91, 99, 100, 101, 102, 103, 104, 105, 106, 107, 108] (by decide +kernel) (by decide +kernel)
set_option maxRecDepth 20000 in
theorem gX3_kind_X0_goOn_n120 : GoodIn wsX3_kind (wsX0_goOn) := ggX3_kind_X0_goOn
theorem dX3_kind_0 : decode cX3_kind 0 = .ok (.aload_n 0, 1) := by decide +kernel
theorem dX3_kind_1 : decode cX3_kind 1 = .ok (.iload_n 1, 1) := by decide +kernel
theorem dX3_kind_2 : decode cX3_kind 2 = .ok (.invokevirtual 84, 3) := by decide +kernel
theorem dX3_kind_5 : decode cX3_kind 5 = .ok (.ifCond .eq 13, 3) := by decide +kernel
theorem dX3_kind_8 : decode cX3_kind 8 = .ok (.iload_n 2, 1) := by decide +kernel
theorem dX3_kind_9 : decode cX3_kind 9 = .ok (.iconst 1, 1) := by decide +kernel
theorem dX3_kind_10 : decode cX3_kind 10 = .ok (.bipush 100, 2) := by decide +kernel
theorem dX3_kind_12 : decode cX3_kind 12 = .ok (.invokestatic 44, 3) := by decide +kernel
theorem dX3_kind_15 : decode cX3_kind 15 = .ok (.ifCond .ne 10, 3) := by decide +kernel
theorem dX3_kind_18 : decode cX3_kind 18 = .ok (.aload_n 0, 1) := by decide +kernel
theorem dX3_kind_19 : decode cX3_kind 19 = .ok (.ldc 48, 2) := by decide +kernel
theorem dX3_kind_21 : decode cX3_kind 21 = .ok (.invokevirtual 49, 3) := by decide +kernel
theorem dX3_kind_24 : decode cX3_kind 24 = .ok (.ireturn, 1) := by decide +kernel
theorem dX3_kind_25 : decode cX3_kind 25 = .ok (.sipush (-10000), 3) := by decide +kernel
theorem dX3_kind_28 : decode cX3_kind 28 = .ok (.istore_n 3, 1) := by decide +kernel
theorem dX3_kind_29 : decode cX3_kind 29 = .ok (.iconst 0, 1) := by decide +kernel
theorem dX3_kind_30 : decode cX3_kind 30 = .ok (.istore 4, 2) := by decide +kernel
theorem dX3_kind_32 : decode cX3_kind 32 = .ok (.iconst 0, 1) := by decide +kernel
theorem dX3_kind_33 : decode cX3_kind 33 = .ok (.istore 5, 2) := by decide +kernel
theorem dX3_kind_35 : decode cX3_kind 35 = .ok (.iload 5, 2) := by decide +kernel
theorem dX3_kind_37 : decode cX3_kind 37 = .ok (.bipush 6, 2) := by decide +kernel
theorem dX3_kind_39 : decode cX3_kind 39 = .ok (.if_icmp .ge 59, 3) := by decide +kernel
theorem dX3_kind_42 : decode cX3_kind 42 = .ok (.aload_n 0, 1) := by decide +kernel
theorem dX3_kind_43 : decode cX3_kind 43 = .ok (.invokevirtual 124, 3) := by decide +kernel
theorem dX3_kind_46 : decode cX3_kind 46 = .ok (.aload_n 0, 1) := by decide +kernel
theorem dX3_kind_47 : decode cX3_kind 47 = .ok (.getfield 16, 3) := by decide +kernel
theorem dX3_kind_50 : decode cX3_kind 50 = .ok (.getfield 88, 3) := by decide +kernel
theorem dX3_kind_53 : decode cX3_kind 53 = .ok (.iload_n 1, 1) := by decide +kernel
theorem dX3_kind_54 : decode cX3_kind 54 = .ok (.iload 5, 2) := by decide +kernel
theorem dX3_kind_56 : decode cX3_kind 56 = .ok (.iastore, 1) := by decide +kernel
theorem dX3_kind_57 : decode cX3_kind 57 = .ok (.aload_n 0, 1) := by decide +kernel
theorem dX3_kind_58 : decode cX3_kind 58 = .ok (.getfield 16, 3) := by decide +kernel
theorem dX3_kind_61 : decode cX3_kind 61 = .ok (.iload_n 2, 1) := by decide +kernel
theorem dX3_kind_62 : decode cX3_kind 62 = .ok (.invokevirtual 120, 3) := by decide +kernel
theorem dX3_kind_65 : decode cX3_kind 65 = .ok (.aload_n 0, 1) := by decide +kernel
theorem dX3_kind_66 : decode cX3_kind 66 = .ok (.getfield 16, 3) := by decide +kernel
theorem dX3_kind_69 : decode cX3_kind 69 = .ok (.getfield 94, 3) := by decide +kernel
theorem dX3_kind_72 : decode cX3_kind 72 = .ok (.iload_n 1, 1) := by decide +kernel
theorem dX3_kind_73 : decode cX3_kind 73 = .ok (.iaload, 1) := by decide +kernel
theorem dX3_kind_74 : decode cX3_kind 74 = .ok (.iload_n 3, 1) := by decide +kernel
theorem dX3_kind_75 : decode cX3_kind 75 = .ok (.if_icmp .le 17, 3) := by decide +kernel
theorem dX3_kind_78 : decode cX3_kind 78 = .ok (.aload_n 0, 1) := by decide +kernel
theorem dX3_kind_79 : decode cX3_kind 79 = .ok (.getfield 16, 3) := by decide +kernel
theorem dX3_kind_82 : decode cX3_kind 82 = .ok (.getfield 94, 3) := by decide +kernel
theorem dX3_kind_85 : decode cX3_kind 85 = .ok (.iload_n 1, 1) := by decide +kernel
theorem dX3_kind_86 : decode cX3_kind 86 = .ok (.iaload, 1) := by decide +kernel
theorem dX3_kind_87 : decode cX3_kind 87 = .ok (.istore_n 3, 1) := by decide +kernel
theorem dX3_kind_88 : decode cX3_kind 88 = .ok (.iload 5, 2) := by decide +kernel
theorem dX3_kind_90 : decode cX3_kind 90 = .ok (.istore 4, 2) := by decide +kernel
theorem dX3_kind_92 : decode cX3_kind 92 = .ok (.iinc 5 1, 3) := by decide +kernel
theorem dX3_kind_95 : decode cX3_kind 95 = .ok (.goto (-60), 3) := by decide +kernel
theorem dX3_kind_98 : decode cX3_kind 98 = .ok (.iload 4, 2) := by decide +kernel
theorem dX3_kind_100 : decode cX3_kind 100 = .ok (.ireturn, 1) := by decide +kernel
set_option maxRecDepth 20000 in
theorem ggX3_fresh_X3_isThere : GoodIn wsX3_fresh wsX3_isThere := goodIn_r _ [8, 9, 10, 11, 7, 12, 93, 94, 95, 96, 97, 98, 99, 100, 101, 102, 103, 104, 105, 106, 107, 108, 109] (by decide +kernel) (by decide +kernel)
set_option maxRecDepth 20000 in
theorem gX3_fresh_X3_isThere : GoodIn wsX3_fresh (wsV RX3 84 RX3 yX3_isThere wsX3_isThere) := goodIn_app (goodIn_of _ (by decide +kernel)) ggX3_fresh_X3_isThere
set_option maxRecDepth 20000 in
theorem ggX3_fresh_X3_isIn : GoodIn wsX3_fresh wsX3_isIn := goodIn_r _ [12] (by decide +kernel) (by decide +kernel)
set_option maxRecDepth 20000 in
theorem gX3_fresh_X3_isIn : GoodIn wsX3_fresh (va_wsS RX3 44 yX3_isIn wsX3_isIn) := goodIn_app (goodIn_of _ (by decide +kernel)) ggX3_fresh_X3_isIn
set_option maxRecDepth 20000 in
theorem ggX3_fresh_X3_finding : GoodIn wsX3_fresh wsX3_finding := goodIn_r _ [16, 1, 17, 93, 94, 95, 96, 97, 98, 99] (by decide +kernel) (by decide +kernel)
set_option maxRecDepth 20000 in
theorem gX3_fresh_X3_finding : GoodIn wsX3_fresh (wsV RX3 49 RX3 yX3_finding wsX3_finding) := goodIn_app (goodIn_of _ (by decide +kernel)) ggX3_fresh_X3_finding
set_option maxRecDepth 20000 in
theorem ggX3_fresh_X3_startTrial : GoodIn wsX3_fresh wsX3_startTrial := goodIn_r _ [21, 2, 9, 22, 23, 24, 25, 26, 27, 28, 29, 30, 31, 32, 33, 34, 35, 36, 37, 38, 93, 94, 95, 96, 97, 98, 99, 100, 101, 102, 103, 104, 105, 106, 107, 108, 109] (by decide +kernel) (by decide +kernel)
set_option maxRecDepth 20000 in
theorem gX3_fresh_X3_startTrial : GoodIn wsX3_fresh (wsV RX3 124 RX3 yX3_startTrial wsX3_startTrial) := goodIn_app (goodIn_of _ (by decide +kernel)) ggX3_fresh_X3_startTrial
set_option maxRecDepth 20000 in
theorem ggX3_fresh_X0_goOn : GoodIn wsX3_fresh wsX0_goOn := goodIn_r _ [41, 42, 43, 44, 23, 45, 29, 27, 28, 46, 37, 35, 38, 47, 48, 49, 50, 51, 52, 53, 54, 55, 56, 57, 58, 59, 60, 61, 62, 36, 34, 63, 64, 65, 66, 67, 7, 68, 69, 70, 71, 72, 73, 74, 75, 76, 77, 78, 79, 80, 81, 82, 83, 84, 85, 86, 87, 88, 89, 90, 26, 91, 92, 100, 101, 102, 103, 104, 105, 106, 107, 108, 109] (by decide +kernel) (by decide +kernel)
set_option maxRecDepth 20000 in
theorem gX3_fresh_X0_goOn_n120 : GoodIn wsX3_fresh (wsX0_goOn) := ggX3_fresh_X0_goOn
theorem dX3_fresh_0 : decode cX3_fresh 0 = .ok (.aload_n 0, 1) := by decide +kernel
theorem dX3_fresh_1 : decode cX3_fresh 1 = .ok (.iload_n 1, 1) := by decide +kernel
theorem dX3_fresh_2 : decode cX3_fresh 2 = .ok (.invokevirtual 84, 3) := by decide +kernel
theorem dX3_fresh_5 : decode cX3_fresh 5 = .ok (.ifCond .eq 26, 3) := by decide +kernel
theorem dX3_fresh_8 : decode cX3_fresh 8 = .ok (.iload_n 2, 1) := by decide +kernel
theorem dX3_fresh_9 : decode cX3_fresh 9 = .ok (.iconst 1, 1) := by decide +kernel
theorem dX3_fresh_10 : decode cX3_fresh 10 = .ok (.bipush 100, 2) := by decide +kernel
theorem dX3_fresh_12 : decode cX3_fresh 12 = .ok (.invokestatic 44, 3) := by decide +kernel
theorem dX3_fresh_15 : decode cX3_fresh 15 = .ok (.ifCond .eq 16, 3) := by decide +kernel
theorem dX3_fresh_18 : decode cX3_fresh 18 = .ok (.iload_n 3, 1) := by decide +kernel
theorem dX3_fresh_19 : decode cX3_fresh 19 = .ok (.sipush (-9999), 3) := by decide +kernel
theorem dX3_fresh_22 : decode cX3_fresh 22 = .ok (.sipush 9999, 3) := by decide +kernel
theorem dX3_fresh_25 : decode cX3_fresh 25 = .ok (.invokestatic 44, 3) := by decide +kernel
theorem dX3_fresh_28 : decode cX3_fresh 28 = .ok (.ifCond .ne 10, 3) := by decide +kernel
theorem dX3_fresh_31 : decode cX3_fresh 31 = .ok (.aload_n 0, 1) := by decide +kernel
theorem dX3_fresh_32 : decode cX3_fresh 32 = .ok (.ldc 48, 2) := by decide +kernel
theorem dX3_fresh_34 : decode cX3_fresh 34 = .ok (.invokevirtual 49, 3) := by decide +kernel
theorem dX3_fresh_37 : decode cX3_fresh 37 = .ok (.ireturn, 1) := by decide +kernel
theorem dX3_fresh_38 : decode cX3_fresh 38 = .ok (.iconst 0, 1) := by decide +kernel
theorem dX3_fresh_39 : decode cX3_fresh 39 = .ok (.istore 4, 2) := by decide +kernel
theorem dX3_fresh_41 : decode cX3_fresh 41 = .ok (.iload 4, 2) := by decide +kernel
theorem dX3_fresh_43 : decode cX3_fresh 43 = .ok (.bipush 99, 2) := by decide +kernel
theorem dX3_fresh_45 : decode cX3_fresh 45 = .ok (.if_icmp .gt 48, 3) := by decide +kernel
theorem dX3_fresh_48 : decode cX3_fresh 48 = .ok (.aload_n 0, 1) := by decide +kernel
theorem dX3_fresh_49 : decode cX3_fresh 49 = .ok (.invokevirtual 124, 3) := by decide +kernel
theorem dX3_fresh_52 : decode cX3_fresh 52 = .ok (.aload_n 0, 1) := by decide +kernel
theorem dX3_fresh_53 : decode cX3_fresh 53 = .ok (.getfield 16, 3) := by decide +kernel
theorem dX3_fresh_56 : decode cX3_fresh 56 = .ok (.getfield 91, 3) := by decide +kernel
theorem dX3_fresh_59 : decode cX3_fresh 59 = .ok (.iload_n 1, 1) := by decide +kernel
theorem dX3_fresh_60 : decode cX3_fresh 60 = .ok (.iload 4, 2) := by decide +kernel
theorem dX3_fresh_62 : decode cX3_fresh 62 = .ok (.iastore, 1) := by decide +kernel
theorem dX3_fresh_63 : decode cX3_fresh 63 = .ok (.aload_n 0, 1) := by decide +kernel
theorem dX3_fresh_64 : decode cX3_fresh 64 = .ok (.getfield 16, 3) := by decide +kernel
theorem dX3_fresh_67 : decode cX3_fresh 67 = .ok (.iload_n 2, 1) := by decide +kernel
theorem dX3_fresh_68 : decode cX3_fresh 68 = .ok (.invokevirtual 120, 3) := by decide +kernel
theorem dX3_fresh_71 : decode cX3_fresh 71 = .ok (.aload_n 0, 1) := by decide +kernel
theorem dX3_fresh_72 : decode cX3_fresh 72 = .ok (.getfield 16, 3) := by decide +kernel
theorem dX3_fresh_75 : decode cX3_fresh 75 = .ok (.getfield 94, 3) := by decide +kernel
theorem dX3_fresh_78 : decode cX3_fresh 78 = .ok (.iload_n 1, 1) := by decide +kernel
theorem dX3_fresh_79 : decode cX3_fresh 79 = .ok (.iaload, 1) := by decide +kernel
theorem dX3_fresh_80 : decode cX3_fresh 80 = .ok (.iload_n 3, 1) := by decide +kernel
theorem dX3_fresh_81 : decode cX3_fresh 81 = .ok (.if_icmp .lt 6, 3) := by decide +kernel
theorem dX3_fresh_84 : decode cX3_fresh 84 = .ok (.iload 4, 2) := by decide +kernel
theorem dX3_fresh_86 : decode cX3_fresh 86 = .ok (.ireturn, 1) := by decide +kernel
theorem dX3_fresh_87 : decode cX3_fresh 87 = .ok (.iinc 4 1, 3) := by decide +kernel
theorem dX3_fresh_90 : decode cX3_fresh 90 = .ok (.goto (-49), 3) := by decide +kernel
theorem dX3_fresh_93 : decode cX3_fresh 93 = .ok (.aload_n 0, 1) := by decide +kernel
theorem dX3_fresh_94 : decode cX3_fresh 94 = .ok (.ldc 136, 2) := by decide +kernel
theorem dX3_fresh_96 : decode cX3_fresh 96 = .ok (.invokevirtual 49, 3) := by decide +kernel
theorem dX3_fresh_99 : decode cX3_fresh 99 = .ok (.ireturn, 1) := by decide +kernel
set_option maxRecDepth 20000 in
theorem ggX3_cue_X3_isIn : GoodIn wsX3_cue wsX3_isIn := goodIn_r _ [7] (by decide +kernel) (by decide +kernel)
set_option maxRecDepth 20000 in
theorem gX3_cue_X3_isIn : GoodIn wsX3_cue (va_wsS RX3 44 yX3_isIn wsX3_isIn) := goodIn_app (goodIn_of _ (by decide +kernel)) ggX3_cue_X3_isIn
set_option maxRecDepth 20000 in
theorem ggX3_cue_X3_finding : GoodIn wsX3_cue wsX3_finding := goodIn_r _ [11, 1, 12, 100, 101, 102, 103, 104, 105, 106] (by decide +kernel) (by decide +kernel)
set_option maxRecDepth 20000 in
theorem gX3_cue_X3_finding : GoodIn wsX3_cue (wsV RX3 49 RX3 yX3_finding wsX3_finding) := goodIn_app (goodIn_of _ (by decide +kernel)) ggX3_cue_X3_finding
set_option maxRecDepth 20000 in
theorem ggX3_cue_X3_startTrial : GoodIn wsX3_cue wsX3_startTrial := goodIn_r _ [16, 3, 17, 18, 19, 20, 21, 22, 23, 24, 25, 26, 27, 28, 29, 30, 31, 32, 33, 34, 100, 101, 102, 103, 104, 105, 106, 107, 108, 109, 110, 111, 112, 113, 114, 115, 116] (by decide +kernel) (by decide +kernel)
set_option maxRecDepth 20000 in
theorem gX3_cue_X3_startTrial : GoodIn wsX3_cue (wsV RX3 124 RX3 yX3_startTrial wsX3_startTrial) := goodIn_app (goodIn_of _ (by decide +kernel)) ggX3_cue_X3_startTrial
set_option maxRecDepth 20000 in
theorem ggX3_cue_X0_allNotesOn : GoodIn wsX3_cue wsX0_allNotesOn := goodIn_r _ [37, 38, 39, 40, 19, 41, 42, 43, 44, 45, 25, 23, 24, 46, 33, 31, 34, 47, 48, 49, 50, 51, 52, 53, 54, 55, 56, 57, 58, 59, 60, 61, 62, 32, 30, 63, 64, 65, 66, 67, 6, 68, 69, 70, 71, 72, 73, 74, 75, 76, 77, 78, 79, 80, 81, 82, 83, 84, 85, 86, 87, 88, 89, 90, 22, 91, 92, 93, 94, 95, 96, 97, 98, 99, 107, 108, 109, 110, 111, 112, 113, 114, 115, 116] (by decide +kernel) (by decide +kernel)
set_option maxRecDepth 20000 in
theorem gX3_cue_X0_allNotesOn_n127 : GoodIn wsX3_cue (wsX0_allNotesOn) := ggX3_cue_X0_allNotesOn
theorem dX3_cue_0 : decode cX3_cue 0 = .ok (.iload_n 1, 1) := by decide +kernel
theorem dX3_cue_1 : decode cX3_cue 1 = .ok (.iconst 1, 1) := by decide +kernel
theorem dX3_cue_2 : decode cX3_cue 2 = .ok (.bipush 60, 2) := by decide +kernel
theorem dX3_cue_4 : decode cX3_cue 4 = .ok (.invokestatic 44, 3) := by decide +kernel
theorem dX3_cue_7 : decode cX3_cue 7 = .ok (.ifCond .ne 10, 3) := by decide +kernel
theorem dX3_cue_10 : decode cX3_cue 10 = .ok (.aload_n 0, 1) := by decide +kernel
theorem dX3_cue_11 : decode cX3_cue 11 = .ok (.ldc 48, 2) := by decide +kernel
theorem dX3_cue_13 : decode cX3_cue 13 = .ok (.invokevirtual 49, 3) := by decide +kernel
theorem dX3_cue_16 : decode cX3_cue 16 = .ok (.ireturn, 1) := by decide +kernel
theorem dX3_cue_17 : decode cX3_cue 17 = .ok (.ldc 137, 2) := by decide +kernel
theorem dX3_cue_19 : decode cX3_cue 19 = .ok (.istore_n 2, 1) := by decide +kernel
theorem dX3_cue_20 : decode cX3_cue 20 = .ok (.iconst 0, 1) := by decide +kernel
theorem dX3_cue_21 : decode cX3_cue 21 = .ok (.istore_n 3, 1) := by decide +kernel
theorem dX3_cue_22 : decode cX3_cue 22 = .ok (.iconst 0, 1) := by decide +kernel
theorem dX3_cue_23 : decode cX3_cue 23 = .ok (.istore 4, 2) := by decide +kernel
theorem dX3_cue_25 : decode cX3_cue 25 = .ok (.iload 4, 2) := by decide +kernel
theorem dX3_cue_27 : decode cX3_cue 27 = .ok (.bipush 80, 2) := by decide +kernel
theorem dX3_cue_29 : decode cX3_cue 29 = .ok (.if_icmp .ge 53, 3) := by decide +kernel
theorem dX3_cue_32 : decode cX3_cue 32 = .ok (.aload_n 0, 1) := by decide +kernel
theorem dX3_cue_33 : decode cX3_cue 33 = .ok (.invokevirtual 124, 3) := by decide +kernel
theorem dX3_cue_36 : decode cX3_cue 36 = .ok (.aload_n 0, 1) := by decide +kernel
theorem dX3_cue_37 : decode cX3_cue 37 = .ok (.getfield 16, 3) := by decide +kernel
theorem dX3_cue_40 : decode cX3_cue 40 = .ok (.getfield 53, 3) := by decide +kernel
theorem dX3_cue_43 : decode cX3_cue 43 = .ok (.iload 4, 2) := by decide +kernel
theorem dX3_cue_45 : decode cX3_cue 45 = .ok (.bipush 16, 2) := by decide +kernel
theorem dX3_cue_47 : decode cX3_cue 47 = .ok (.irem, 1) := by decide +kernel
theorem dX3_cue_48 : decode cX3_cue 48 = .ok (.iload 4, 2) := by decide +kernel
theorem dX3_cue_50 : decode cX3_cue 50 = .ok (.bipush 16, 2) := by decide +kernel
theorem dX3_cue_52 : decode cX3_cue 52 = .ok (.idiv, 1) := by decide +kernel
theorem dX3_cue_53 : decode cX3_cue 53 = .ok (.iastore, 1) := by decide +kernel
theorem dX3_cue_54 : decode cX3_cue 54 = .ok (.aload_n 0, 1) := by decide +kernel
theorem dX3_cue_55 : decode cX3_cue 55 = .ok (.getfield 16, 3) := by decide +kernel
theorem dX3_cue_58 : decode cX3_cue 58 = .ok (.iload_n 1, 1) := by decide +kernel
theorem dX3_cue_59 : decode cX3_cue 59 = .ok (.invokevirtual 127, 3) := by decide +kernel
theorem dX3_cue_62 : decode cX3_cue 62 = .ok (.istore 5, 2) := by decide +kernel
theorem dX3_cue_64 : decode cX3_cue 64 = .ok (.iload 5, 2) := by decide +kernel
theorem dX3_cue_66 : decode cX3_cue 66 = .ok (.iload_n 2, 1) := by decide +kernel
theorem dX3_cue_67 : decode cX3_cue 67 = .ok (.if_icmp .le 9, 3) := by decide +kernel
theorem dX3_cue_70 : decode cX3_cue 70 = .ok (.iload 5, 2) := by decide +kernel
theorem dX3_cue_72 : decode cX3_cue 72 = .ok (.istore_n 2, 1) := by decide +kernel
theorem dX3_cue_73 : decode cX3_cue 73 = .ok (.iload 4, 2) := by decide +kernel
theorem dX3_cue_75 : decode cX3_cue 75 = .ok (.istore_n 3, 1) := by decide +kernel
theorem dX3_cue_76 : decode cX3_cue 76 = .ok (.iinc 4 1, 3) := by decide +kernel
theorem dX3_cue_79 : decode cX3_cue 79 = .ok (.goto (-54), 3) := by decide +kernel
theorem dX3_cue_82 : decode cX3_cue 82 = .ok (.iload_n 3, 1) := by decide +kernel
theorem dX3_cue_83 : decode cX3_cue 83 = .ok (.ireturn, 1) := by decide +kernel
set_option maxRecDepth 20000 in
theorem ggX3_doze_X3_isIn : GoodIn wsX3_doze wsX3_isIn := goodIn_r _ [9] (by decide +kernel) (by decide +kernel)
set_option maxRecDepth 20000 in
theorem gX3_doze_X3_isIn : GoodIn wsX3_doze (va_wsS RX3 44 yX3_isIn wsX3_isIn) := goodIn_app (goodIn_of _ (by decide +kernel)) ggX3_doze_X3_isIn
set_option maxRecDepth 20000 in
theorem ggX3_doze_X3_finding : GoodIn wsX3_doze wsX3_finding := goodIn_r _ [13, 1, 14, 101, 102, 103, 104, 105, 106, 107] (by decide +kernel) (by decide +kernel)
set_option maxRecDepth 20000 in
theorem gX3_doze_X3_finding : GoodIn wsX3_doze (wsV RX3 49 RX3 yX3_finding wsX3_finding) := goodIn_app (goodIn_of _ (by decide +kernel)) ggX3_doze_X3_finding
set_option maxRecDepth 20000 in
theorem ggX3_doze_X3_startTrial : GoodIn wsX3_doze wsX3_startTrial := goodIn_r _ [18, 4, 3, 19, 20, 21, 22, 23, 24, 25, 26, 27, 28, 29, 30, 31, 32, 33, 34, 35, 101, 102, 103, 104, 105, 106, 107, 108, 109, 110, 111, 112, 113, 114, 115, 116, 117] (by decide +kernel) (by decide +kernel)
set_option maxRecDepth 20000 in
theorem gX3_doze_X3_startTrial : GoodIn wsX3_doze (wsV RX3 124 RX3 yX3_startTrial wsX3_startTrial) := goodIn_app (goodIn_of _ (by decide +kernel)) ggX3_doze_X3_startTrial
set_option maxRecDepth 20000 in
theorem ggX3_doze_X0_allNotesOn : GoodIn wsX3_doze wsX0_allNotesOn := goodIn_r _ [38, 39, 40, 41, 20, 42, 43, 44, 45, 46, 26, 24, 25, 47, 34, 32, 35, 48, 49, 50, 51, 52, 53, 54, 55, 56, 57, 58, 59, 60, 61, 62, 63, 33, 31, 64, 65, 66, 67, 68, 8, 69, 70, 71, 72, 73, 74, 75, 76, 77, 78, 79, 80, 81, 82, 83, 84, 85, 86, 87, 88, 89, 90, 91, 23, 92, 93, 94, 95, 96, 97, 98, 99, 100, 108, 109, 110, 111, 112, 113, 114, 115, 116, 117] (by decide +kernel) (by decide +kernel)
set_option maxRecDepth 20000 in
theorem gX3_doze_X0_allNotesOn_n127 : GoodIn wsX3_doze (wsX0_allNotesOn) := ggX3_doze_X0_allNotesOn
theorem dX3_doze_0 : decode cX3_doze 0 = .ok (.iload_n 1, 1) := by decide +kernel
theorem dX3_doze_1 : decode cX3_doze 1 = .ok (.iconst 1, 1) := by decide +kernel
theorem dX3_doze_2 : decode cX3_doze 2 = .ok (.bipush 100, 2) := by decide +kernel
theorem dX3_doze_4 : decode cX3_doze 4 = .ok (.invokestatic 44, 3) := by decide +kernel
theorem dX3_doze_7 : decode cX3_doze 7 = .ok (.ifCond .ne 10, 3) := by decide +kernel
theorem dX3_doze_10 : decode cX3_doze 10 = .ok (.aload_n 0, 1) := by decide +kernel
theorem dX3_doze_11 : decode cX3_doze 11 = .ok (.ldc 48, 2) := by decide +kernel
theorem dX3_doze_13 : decode cX3_doze 13 = .ok (.invokevirtual 49, 3) := by decide +kernel
theorem dX3_doze_16 : decode cX3_doze 16 = .ok (.ireturn, 1) := by decide +kernel
theorem dX3_doze_17 : decode cX3_doze 17 = .ok (.ldc 138, 2) := by decide +kernel
theorem dX3_doze_19 : decode cX3_doze 19 = .ok (.istore_n 2, 1) := by decide +kernel
theorem dX3_doze_20 : decode cX3_doze 20 = .ok (.iconst (-1), 1) := by decide +kernel
theorem dX3_doze_21 : decode cX3_doze 21 = .ok (.istore_n 3, 1) := by decide +kernel
theorem dX3_doze_22 : decode cX3_doze 22 = .ok (.iconst 0, 1) := by decide +kernel
theorem dX3_doze_23 : decode cX3_doze 23 = .ok (.istore 4, 2) := by decide +kernel
theorem dX3_doze_25 : decode cX3_doze 25 = .ok (.iload 4, 2) := by decide +kernel
theorem dX3_doze_27 : decode cX3_doze 27 = .ok (.aload_n 0, 1) := by decide +kernel
theorem dX3_doze_28 : decode cX3_doze 28 = .ok (.getfield 12, 3) := by decide +kernel
theorem dX3_doze_31 : decode cX3_doze 31 = .ok (.getfield 76, 3) := by decide +kernel
theorem dX3_doze_34 : decode cX3_doze 34 = .ok (.if_icmp .ge 46, 3) := by decide +kernel
theorem dX3_doze_37 : decode cX3_doze 37 = .ok (.aload_n 0, 1) := by decide +kernel
theorem dX3_doze_38 : decode cX3_doze 38 = .ok (.invokevirtual 124, 3) := by decide +kernel
theorem dX3_doze_41 : decode cX3_doze 41 = .ok (.aload_n 0, 1) := by decide +kernel
theorem dX3_doze_42 : decode cX3_doze 42 = .ok (.getfield 16, 3) := by decide +kernel
theorem dX3_doze_45 : decode cX3_doze 45 = .ok (.getfield 88, 3) := by decide +kernel
theorem dX3_doze_48 : decode cX3_doze 48 = .ok (.iload 4, 2) := by decide +kernel
theorem dX3_doze_50 : decode cX3_doze 50 = .ok (.iconst 3, 1) := by decide +kernel
theorem dX3_doze_51 : decode cX3_doze 51 = .ok (.iastore, 1) := by decide +kernel
theorem dX3_doze_52 : decode cX3_doze 52 = .ok (.aload_n 0, 1) := by decide +kernel
theorem dX3_doze_53 : decode cX3_doze 53 = .ok (.getfield 16, 3) := by decide +kernel
theorem dX3_doze_56 : decode cX3_doze 56 = .ok (.iload_n 1, 1) := by decide +kernel
theorem dX3_doze_57 : decode cX3_doze 57 = .ok (.invokevirtual 127, 3) := by decide +kernel
theorem dX3_doze_60 : decode cX3_doze 60 = .ok (.istore 5, 2) := by decide +kernel
theorem dX3_doze_62 : decode cX3_doze 62 = .ok (.iload 5, 2) := by decide +kernel
theorem dX3_doze_64 : decode cX3_doze 64 = .ok (.iload_n 2, 1) := by decide +kernel
theorem dX3_doze_65 : decode cX3_doze 65 = .ok (.if_icmp .ge 9, 3) := by decide +kernel
theorem dX3_doze_68 : decode cX3_doze 68 = .ok (.iload 5, 2) := by decide +kernel
theorem dX3_doze_70 : decode cX3_doze 70 = .ok (.istore_n 2, 1) := by decide +kernel
theorem dX3_doze_71 : decode cX3_doze 71 = .ok (.iload 4, 2) := by decide +kernel
theorem dX3_doze_73 : decode cX3_doze 73 = .ok (.istore_n 3, 1) := by decide +kernel
theorem dX3_doze_74 : decode cX3_doze 74 = .ok (.iinc 4 1, 3) := by decide +kernel
theorem dX3_doze_77 : decode cX3_doze 77 = .ok (.goto (-52), 3) := by decide +kernel
theorem dX3_doze_80 : decode cX3_doze 80 = .ok (.iload_n 3, 1) := by decide +kernel
theorem dX3_doze_81 : decode cX3_doze 81 = .ok (.ifCond .ge 12, 3) := by decide +kernel
theorem dX3_doze_84 : decode cX3_doze 84 = .ok (.aload_n 0, 1) := by decide +kernel
theorem dX3_doze_85 : decode cX3_doze 85 = .ok (.ldc 136, 2) := by decide +kernel
theorem dX3_doze_87 : decode cX3_doze 87 = .ok (.invokevirtual 49, 3) := by decide +kernel
theorem dX3_doze_90 : decode cX3_doze 90 = .ok (.goto 4, 3) := by decide +kernel
theorem dX3_doze_93 : decode cX3_doze 93 = .ok (.iload_n 3, 1) := by decide +kernel
theorem dX3_doze_94 : decode cX3_doze 94 = .ok (.ireturn, 1) := by decide +kernel
set_option maxRecDepth 20000 in
theorem ggX3_tense_X3_isIn : GoodIn wsX3_tense wsX3_isIn := goodIn_r _ [7] (by decide +kernel) (by decide +kernel)
set_option maxRecDepth 20000 in
theorem gX3_tense_X3_isIn : GoodIn wsX3_tense (va_wsS RX3 44 yX3_isIn wsX3_isIn) := goodIn_app (goodIn_of _ (by decide +kernel)) ggX3_tense_X3_isIn
set_option maxRecDepth 20000 in
theorem ggX3_tense_X3_finding : GoodIn wsX3_tense wsX3_finding := goodIn_r _ [11, 1, 12, 103, 104, 105, 106, 107, 108, 109] (by decide +kernel) (by decide +kernel)
set_option maxRecDepth 20000 in
theorem gX3_tense_X3_finding : GoodIn wsX3_tense (wsV RX3 49 RX3 yX3_finding wsX3_finding) := goodIn_app (goodIn_of _ (by decide +kernel)) ggX3_tense_X3_finding
set_option maxRecDepth 20000 in
theorem ggX3_tense_X3_startTrial : GoodIn wsX3_tense wsX3_startTrial := goodIn_r _ [16, 2, 17, 18, 19, 20, 21, 22, 23, 24, 25, 26, 27, 28, 29, 30, 31, 32, 33, 34, 103, 104, 105, 106, 107, 108, 109, 110, 111, 112, 113, 114, 115, 116, 117, 118, 119] (by decide +kernel) (by decide +kernel)
set_option maxRecDepth 20000 in
theorem gX3_tense_X3_startTrial : GoodIn wsX3_tense (wsV RX3 124 RX3 yX3_startTrial wsX3_startTrial) := goodIn_app (goodIn_of _ (by decide +kernel)) ggX3_tense_X3_startTrial
set_option maxRecDepth 20000 in
theorem ggX3_tense_X0_tenseAll : GoodIn wsX3_tense wsX0_tenseAll := goodIn_r _ [37, 30, 110, 111, 112, 113, 114, 115, 116, 117, 118, 119] (by decide +kernel) (by decide +kernel)
set_option maxRecDepth 20000 in
theorem gX3_tense_X0_tenseAll_n139 : GoodIn wsX3_tense (wsX0_tenseAll) := ggX3_tense_X0_tenseAll
set_option maxRecDepth 20000 in
theorem ggX3_tense_X0_allNotesOn : GoodIn wsX3_tense wsX0_allNotesOn := goodIn_r _ [40, 41, 42, 43, 19, 44, 45, 46, 47, 48, 25, 23, 24, 49, 33, 31, 34, 50, 51, 52, 53, 54, 55, 56, 57, 58, 59, 60, 61, 62, 63, 64, 65, 32, 30, 66, 67, 68, 69, 70, 6, 71, 72, 73, 74, 75, 76, 77, 78, 79, 80, 81, 82, 83, 84, 85, 86, 87, 88, 89, 90, 91, 92, 93, 22, 94, 95, 96, 97, 98, 99, 100, 101, 102, 110, 111, 112, 113, 114, 115, 116, 117, 118, 119] (by decide +kernel) (by decide +kernel)
set_option maxRecDepth 20000 in
theorem gX3_tense_X0_allNotesOn_n127 : GoodIn wsX3_tense (wsX0_allNotesOn) := ggX3_tense_X0_allNotesOn
theorem dX3_tense_0 : decode cX3_tense 0 = .ok (.iload_n 1, 1) := by decide +kernel
theorem dX3_tense_1 : decode cX3_tense 1 = .ok (.iconst 1, 1) := by decide +kernel
theorem dX3_tense_2 : decode cX3_tense 2 = .ok (.bipush 100, 2) := by decide +kernel
theorem dX3_tense_4 : decode cX3_tense 4 = .ok (.invokestatic 44, 3) := by decide +kernel
theorem dX3_tense_7 : decode cX3_tense 7 = .ok (.ifCond .eq 16, 3) := by decide +kernel
theorem dX3_tense_10 : decode cX3_tense 10 = .ok (.iload_n 2, 1) := by decide +kernel
theorem dX3_tense_11 : decode cX3_tense 11 = .ok (.sipush (-9999), 3) := by decide +kernel
theorem dX3_tense_14 : decode cX3_tense 14 = .ok (.sipush 9999, 3) := by decide +kernel
theorem dX3_tense_17 : decode cX3_tense 17 = .ok (.invokestatic 44, 3) := by decide +kernel
theorem dX3_tense_20 : decode cX3_tense 20 = .ok (.ifCond .ne 10, 3) := by decide +kernel
theorem dX3_tense_23 : decode cX3_tense 23 = .ok (.aload_n 0, 1) := by decide +kernel
theorem dX3_tense_24 : decode cX3_tense 24 = .ok (.ldc 48, 2) := by decide +kernel
theorem dX3_tense_26 : decode cX3_tense 26 = .ok (.invokevirtual 49, 3) := by decide +kernel
theorem dX3_tense_29 : decode cX3_tense 29 = .ok (.ireturn, 1) := by decide +kernel
theorem dX3_tense_30 : decode cX3_tense 30 = .ok (.bipush 20, 2) := by decide +kernel
theorem dX3_tense_32 : decode cX3_tense 32 = .ok (.istore_n 3, 1) := by decide +kernel
theorem dX3_tense_33 : decode cX3_tense 33 = .ok (.iload_n 3, 1) := by decide +kernel
theorem dX3_tense_34 : decode cX3_tense 34 = .ok (.ifCond .lt 35, 3) := by decide +kernel
theorem dX3_tense_37 : decode cX3_tense 37 = .ok (.aload_n 0, 1) := by decide +kernel
theorem dX3_tense_38 : decode cX3_tense 38 = .ok (.invokevirtual 124, 3) := by decide +kernel
theorem dX3_tense_41 : decode cX3_tense 41 = .ok (.aload_n 0, 1) := by decide +kernel
theorem dX3_tense_42 : decode cX3_tense 42 = .ok (.getfield 16, 3) := by decide +kernel
theorem dX3_tense_45 : decode cX3_tense 45 = .ok (.iload_n 3, 1) := by decide +kernel
theorem dX3_tense_46 : decode cX3_tense 46 = .ok (.invokevirtual 139, 3) := by decide +kernel
theorem dX3_tense_49 : decode cX3_tense 49 = .ok (.aload_n 0, 1) := by decide +kernel
theorem dX3_tense_50 : decode cX3_tense 50 = .ok (.getfield 16, 3) := by decide +kernel
theorem dX3_tense_53 : decode cX3_tense 53 = .ok (.iload_n 1, 1) := by decide +kernel
theorem dX3_tense_54 : decode cX3_tense 54 = .ok (.invokevirtual 127, 3) := by decide +kernel
theorem dX3_tense_57 : decode cX3_tense 57 = .ok (.iload_n 2, 1) := by decide +kernel
theorem dX3_tense_58 : decode cX3_tense 58 = .ok (.if_icmp .lt 5, 3) := by decide +kernel
theorem dX3_tense_61 : decode cX3_tense 61 = .ok (.iload_n 3, 1) := by decide +kernel
theorem dX3_tense_62 : decode cX3_tense 62 = .ok (.ireturn, 1) := by decide +kernel
theorem dX3_tense_63 : decode cX3_tense 63 = .ok (.iinc 3 (-1), 3) := by decide +kernel
theorem dX3_tense_66 : decode cX3_tense 66 = .ok (.goto (-33), 3) := by decide +kernel
theorem dX3_tense_69 : decode cX3_tense 69 = .ok (.aload_n 0, 1) := by decide +kernel
theorem dX3_tense_70 : decode cX3_tense 70 = .ok (.ldc 136, 2) := by decide +kernel
theorem dX3_tense_72 : decode cX3_tense 72 = .ok (.invokevirtual 49, 3) := by decide +kernel
theorem dX3_tense_75 : decode cX3_tense 75 = .ok (.ireturn, 1) := by decide +kernel
set_option maxRecDepth 20000 in
theorem ggX3_best_X3_isIn : GoodIn wsX3_best wsX3_isIn := goodIn_r _ [7] (by decide +kernel) (by decide +kernel)
set_option maxRecDepth 20000 in
theorem gX3_best_X3_isIn : GoodIn wsX3_best (va_wsS RX3 44 yX3_isIn wsX3_isIn) := goodIn_app (goodIn_of _ (by decide +kernel)) ggX3_best_X3_isIn
set_option maxRecDepth 20000 in
theorem ggX3_best_X3_finding : GoodIn wsX3_best wsX3_finding := goodIn_r _ [11, 1, 12, 89, 90, 91, 92, 93, 94, 95] (by decide +kernel) (by decide +kernel)
set_option maxRecDepth 20000 in
theorem gX3_best_X3_finding : GoodIn wsX3_best (wsV RX3 49 RX3 yX3_finding wsX3_finding) := goodIn_app (goodIn_of _ (by decide +kernel)) ggX3_best_X3_finding
set_option maxRecDepth 20000 in
theorem ggX3_best_X3_startTrial : GoodIn wsX3_best wsX3_startTrial := goodIn_r _ [16, 2, 17, 18, 19, 20, 21, 22, 23, 24, 25, 26, 27, 28, 29, 30, 31, 32, 33, 34, 89, 90, 91, 92, 93, 94, 95, 96, 97, 98, 99, 100, 101, 102, 103, 104, 105] (by decide +kernel) (by decide +kernel)
set_option maxRecDepth 20000 in
theorem gX3_best_X3_startTrial : GoodIn wsX3_best (wsV RX3 124 RX3 yX3_startTrial wsX3_startTrial) := goodIn_app (goodIn_of _ (by decide +kernel)) ggX3_best_X3_startTrial
set_option maxRecDepth 20000 in
theorem ggX3_best_X0_goOn : GoodIn wsX3_best wsX0_goOn := goodIn_r _ [37, 38, 39, 40, 19, 41, 25, 23, 24, 42, 33, 31, 34, 43, 44, 45, 46, 47, 48, 49, 50, 51, 52, 53, 54, 55, 56, 57, 58, 32, 30, 59, 60, 61, 62, 63, 6, 64, 65, 66, 67, 68, 69, 70, 71, 72, 73, 74, 75, 76, 77, 78, 79, 80, 81, 82, 83, 84, 85, 86, 22, 87, 88, 96, 97, 98, 99, 100, 101, 102, 103, 104, 105] (by decide +kernel) (by decide +kernel)
set_option maxRecDepth 20000 in
theorem gX3_best_X0_goOn_n120 : GoodIn wsX3_best (wsX0_goOn) := ggX3_best_X0_goOn
theorem dX3_best_0 : decode cX3_best 0 = .ok (.iload_n 1, 1) := by decide +kernel
theorem dX3_best_1 : decode cX3_best 1 = .ok (.iconst 0, 1) := by decide +kernel
theorem dX3_best_2 : decode cX3_best 2 = .ok (.sipush 400, 3) := by decide +kernel
theorem dX3_best_5 : decode cX3_best 5 = .ok (.invokestatic 44, 3) := by decide +kernel
theorem dX3_best_8 : decode cX3_best 8 = .ok (.ifCond .ne 10, 3) := by decide +kernel
theorem dX3_best_11 : decode cX3_best 11 = .ok (.aload_n 0, 1) := by decide +kernel
theorem dX3_best_12 : decode cX3_best 12 = .ok (.ldc 48, 2) := by decide +kernel
theorem dX3_best_14 : decode cX3_best 14 = .ok (.invokevirtual 49, 3) := by decide +kernel
theorem dX3_best_17 : decode cX3_best 17 = .ok (.ireturn, 1) := by decide +kernel
theorem dX3_best_18 : decode cX3_best 18 = .ok (.aload_n 0, 1) := by decide +kernel
theorem dX3_best_19 : decode cX3_best 19 = .ok (.invokevirtual 124, 3) := by decide +kernel
theorem dX3_best_22 : decode cX3_best 22 = .ok (.aload_n 0, 1) := by decide +kernel
theorem dX3_best_23 : decode cX3_best 23 = .ok (.getfield 16, 3) := by decide +kernel
theorem dX3_best_26 : decode cX3_best 26 = .ok (.iload_n 1, 1) := by decide +kernel
theorem dX3_best_27 : decode cX3_best 27 = .ok (.invokevirtual 120, 3) := by decide +kernel
theorem dX3_best_30 : decode cX3_best 30 = .ok (.sipush (-10000), 3) := by decide +kernel
theorem dX3_best_33 : decode cX3_best 33 = .ok (.istore_n 2, 1) := by decide +kernel
theorem dX3_best_34 : decode cX3_best 34 = .ok (.iconst (-1), 1) := by decide +kernel
theorem dX3_best_35 : decode cX3_best 35 = .ok (.istore_n 3, 1) := by decide +kernel
theorem dX3_best_36 : decode cX3_best 36 = .ok (.iconst 0, 1) := by decide +kernel
theorem dX3_best_37 : decode cX3_best 37 = .ok (.istore 4, 2) := by decide +kernel
theorem dX3_best_39 : decode cX3_best 39 = .ok (.iload 4, 2) := by decide +kernel
theorem dX3_best_41 : decode cX3_best 41 = .ok (.aload_n 0, 1) := by decide +kernel
theorem dX3_best_42 : decode cX3_best 42 = .ok (.getfield 16, 3) := by decide +kernel
theorem dX3_best_45 : decode cX3_best 45 = .ok (.getfield 76, 3) := by decide +kernel
theorem dX3_best_48 : decode cX3_best 48 = .ok (.if_icmp .ge 37, 3) := by decide +kernel
theorem dX3_best_51 : decode cX3_best 51 = .ok (.aload_n 0, 1) := by decide +kernel
theorem dX3_best_52 : decode cX3_best 52 = .ok (.getfield 16, 3) := by decide +kernel
theorem dX3_best_55 : decode cX3_best 55 = .ok (.getfield 94, 3) := by decide +kernel
theorem dX3_best_58 : decode cX3_best 58 = .ok (.iload 4, 2) := by decide +kernel
theorem dX3_best_60 : decode cX3_best 60 = .ok (.iaload, 1) := by decide +kernel
theorem dX3_best_61 : decode cX3_best 61 = .ok (.iload_n 2, 1) := by decide +kernel
theorem dX3_best_62 : decode cX3_best 62 = .ok (.if_icmp .le 17, 3) := by decide +kernel
theorem dX3_best_65 : decode cX3_best 65 = .ok (.aload_n 0, 1) := by decide +kernel
theorem dX3_best_66 : decode cX3_best 66 = .ok (.getfield 16, 3) := by decide +kernel
theorem dX3_best_69 : decode cX3_best 69 = .ok (.getfield 94, 3) := by decide +kernel
theorem dX3_best_72 : decode cX3_best 72 = .ok (.iload 4, 2) := by decide +kernel
theorem dX3_best_74 : decode cX3_best 74 = .ok (.iaload, 1) := by decide +kernel
theorem dX3_best_75 : decode cX3_best 75 = .ok (.istore_n 2, 1) := by decide +kernel
theorem dX3_best_76 : decode cX3_best 76 = .ok (.iload 4, 2) := by decide +kernel
theorem dX3_best_78 : decode cX3_best 78 = .ok (.istore_n 3, 1) := by decide +kernel
theorem dX3_best_79 : decode cX3_best 79 = .ok (.iinc 4 1, 3) := by decide +kernel
theorem dX3_best_82 : decode cX3_best 82 = .ok (.goto (-43), 3) := by decide +kernel
theorem dX3_best_85 : decode cX3_best 85 = .ok (.iload_n 3, 1) := by decide +kernel
theorem dX3_best_86 : decode cX3_best 86 = .ok (.ifCond .ge 12, 3) := by decide +kernel
theorem dX3_best_89 : decode cX3_best 89 = .ok (.aload_n 0, 1) := by decide +kernel
theorem dX3_best_90 : decode cX3_best 90 = .ok (.ldc 136, 2) := by decide +kernel
theorem dX3_best_92 : decode cX3_best 92 = .ok (.invokevirtual 49, 3) := by decide +kernel
theorem dX3_best_95 : decode cX3_best 95 = .ok (.goto 4, 3) := by decide +kernel
theorem dX3_best_98 : decode cX3_best 98 = .ok (.iload_n 3, 1) := by decide +kernel
theorem dX3_best_99 : decode cX3_best 99 = .ok (.ireturn, 1) := by decide +kernel
set_option maxRecDepth 20000 in
theorem ggX3_feed_X3_isIn : GoodIn wsX3_feed wsX3_isIn := goodIn_r _ [7] (by decide +kernel) (by decide +kernel)
set_option maxRecDepth 20000 in
theorem gX3_feed_X3_isIn : GoodIn wsX3_feed (va_wsS RX3 44 yX3_isIn wsX3_isIn) := goodIn_app (goodIn_of _ (by decide +kernel)) ggX3_feed_X3_isIn
set_option maxRecDepth 20000 in
theorem ggX3_feed_X3_finding : GoodIn wsX3_feed wsX3_finding := goodIn_r _ [11, 1, 12, 19, 20, 21, 22, 23, 24, 25] (by decide +kernel) (by decide +kernel)
set_option maxRecDepth 20000 in
theorem gX3_feed_X3_finding : GoodIn wsX3_feed (wsV RX3 49 RX3 yX3_finding wsX3_finding) := goodIn_app (goodIn_of _ (by decide +kernel)) ggX3_feed_X3_finding
set_option maxRecDepth 20000 in
theorem ggX3_feed_X2_add : GoodIn wsX3_feed wsX2_add := goodIn_r _ [16, 17, 18, 26, 27, 28, 29, 30, 31] (by decide +kernel) (by decide +kernel)
set_option maxRecDepth 20000 in
theorem gX3_feed_X2_add_n145 : GoodIn wsX3_feed (wsX2_add) := ggX3_feed_X2_add
theorem dX3_feed_0 : decode cX3_feed 0 = .ok (.iload_n 2, 1) := by decide +kernel
theorem dX3_feed_1 : decode cX3_feed 1 = .ok (.iconst 1, 1) := by decide +kernel
theorem dX3_feed_2 : decode cX3_feed 2 = .ok (.iconst 4, 1) := by decide +kernel
theorem dX3_feed_3 : decode cX3_feed 3 = .ok (.invokestatic 44, 3) := by decide +kernel
theorem dX3_feed_6 : decode cX3_feed 6 = .ok (.ifCond .ne 10, 3) := by decide +kernel
theorem dX3_feed_9 : decode cX3_feed 9 = .ok (.aload_n 0, 1) := by decide +kernel
theorem dX3_feed_10 : decode cX3_feed 10 = .ok (.ldc 48, 2) := by decide +kernel
theorem dX3_feed_12 : decode cX3_feed 12 = .ok (.invokevirtual 49, 3) := by decide +kernel
theorem dX3_feed_15 : decode cX3_feed 15 = .ok (.ireturn, 1) := by decide +kernel
theorem dX3_feed_16 : decode cX3_feed 16 = .ok (.aload_n 0, 1) := by decide +kernel
theorem dX3_feed_17 : decode cX3_feed 17 = .ok (.getfield 29, 3) := by decide +kernel
theorem dX3_feed_20 : decode cX3_feed 20 = .ok (.getfield 142, 3) := by decide +kernel
theorem dX3_feed_23 : decode cX3_feed 23 = .ok (.iload_n 2, 1) := by decide +kernel
theorem dX3_feed_24 : decode cX3_feed 24 = .ok (.iadd, 1) := by decide +kernel
theorem dX3_feed_25 : decode cX3_feed 25 = .ok (.bipush 120, 2) := by decide +kernel
theorem dX3_feed_27 : decode cX3_feed 27 = .ok (.if_icmp .le 10, 3) := by decide +kernel
theorem dX3_feed_30 : decode cX3_feed 30 = .ok (.aload_n 0, 1) := by decide +kernel
theorem dX3_feed_31 : decode cX3_feed 31 = .ok (.ldc 79, 2) := by decide +kernel
theorem dX3_feed_33 : decode cX3_feed 33 = .ok (.invokevirtual 49, 3) := by decide +kernel
theorem dX3_feed_36 : decode cX3_feed 36 = .ok (.ireturn, 1) := by decide +kernel
theorem dX3_feed_37 : decode cX3_feed 37 = .ok (.iload_n 2, 1) := by decide +kernel
theorem dX3_feed_38 : decode cX3_feed 38 = .ok (.iconst 1, 1) := by decide +kernel
theorem dX3_feed_39 : decode cX3_feed 39 = .ok (.isub, 1) := by decide +kernel
theorem dX3_feed_40 : decode cX3_feed 40 = .ok (.istore_n 3, 1) := by decide +kernel
theorem dX3_feed_41 : decode cX3_feed 41 = .ok (.iload_n 3, 1) := by decide +kernel
theorem dX3_feed_42 : decode cX3_feed 42 = .ok (.ifCond .lt 23, 3) := by decide +kernel
theorem dX3_feed_45 : decode cX3_feed 45 = .ok (.aload_n 0, 1) := by decide +kernel
theorem dX3_feed_46 : decode cX3_feed 46 = .ok (.getfield 29, 3) := by decide +kernel
theorem dX3_feed_49 : decode cX3_feed 49 = .ok (.iload_n 1, 1) := by decide +kernel
theorem dX3_feed_50 : decode cX3_feed 50 = .ok (.bipush 8, 2) := by decide +kernel
theorem dX3_feed_52 : decode cX3_feed 52 = .ok (.iload_n 3, 1) := by decide +kernel
theorem dX3_feed_53 : decode cX3_feed 53 = .ok (.imul, 1) := by decide +kernel
theorem dX3_feed_54 : decode cX3_feed 54 = .ok (.ishr, 1) := by decide +kernel
theorem dX3_feed_55 : decode cX3_feed 55 = .ok (.i2b, 1) := by decide +kernel
theorem dX3_feed_56 : decode cX3_feed 56 = .ok (.invokevirtual 145, 3) := by decide +kernel
theorem dX3_feed_59 : decode cX3_feed 59 = .ok (.iinc 3 (-1), 3) := by decide +kernel
theorem dX3_feed_62 : decode cX3_feed 62 = .ok (.goto (-21), 3) := by decide +kernel
theorem dX3_feed_65 : decode cX3_feed 65 = .ok (.aload_n 0, 1) := by decide +kernel
theorem dX3_feed_66 : decode cX3_feed 66 = .ok (.getfield 29, 3) := by decide +kernel
theorem dX3_feed_69 : decode cX3_feed 69 = .ok (.getfield 142, 3) := by decide +kernel
theorem dX3_feed_72 : decode cX3_feed 72 = .ok (.ireturn, 1) := by decide +kernel
theorem dX3_wipe_0 : decode cX3_wipe 0 = .ok (.aload_n 0, 1) := by decide +kernel
theorem dX3_wipe_1 : decode cX3_wipe 1 = .ok (.getfield 29, 3) := by decide +kernel
theorem dX3_wipe_4 : decode cX3_wipe 4 = .ok (.getfield 142, 3) := by decide +kernel
theorem dX3_wipe_7 : decode cX3_wipe 7 = .ok (.istore_n 1, 1) := by decide +kernel
theorem dX3_wipe_8 : decode cX3_wipe 8 = .ok (.aload_n 0, 1) := by decide +kernel
theorem dX3_wipe_9 : decode cX3_wipe 9 = .ok (.getfield 29, 3) := by decide +kernel
theorem dX3_wipe_12 : decode cX3_wipe 12 = .ok (.iconst 0, 1) := by decide +kernel
theorem dX3_wipe_13 : decode cX3_wipe 13 = .ok (.putfield 142, 3) := by decide +kernel
theorem dX3_wipe_16 : decode cX3_wipe 16 = .ok (.iload_n 1, 1) := by decide +kernel
theorem dX3_wipe_17 : decode cX3_wipe 17 = .ok (.ireturn, 1) := by decide +kernel
set_option maxRecDepth 20000 in
theorem ggX3_evening_X3_startTrial : GoodIn wsX3_evening wsX3_startTrial := goodIn_r _ [8, 2, 3, 9, 10, 11, 12, 13, 14, 15, 16, 17, 18, 19, 20, 21, 22, 23, 24, 25, 158, 159, 160, 161, 162, 163, 164, 171, 172, 173, 174, 175, 176, 177, 178, 179, 180] (by decide +kernel) (by decide +kernel)
set_option maxRecDepth 20000 in
theorem gX3_evening_X3_startTrial : GoodIn wsX3_evening (wsV RX3 124 RX3 yX3_startTrial wsX3_startTrial) := goodIn_app (goodIn_of _ (by decide +kernel)) ggX3_evening_X3_startTrial
set_option maxRecDepth 20000 in
theorem ggX3_evening_X2_tellTo : GoodIn wsX3_evening wsX2_tellTo := goodIn_r _ [29, 30, 31, 32, 33, 34, 35, 27, 36, 37, 38, 39, 40, 41, 42, 43, 44, 45, 46, 47, 48, 49, 50, 51, 52, 53, 54, 55, 56, 57, 58, 59, 60, 61, 62, 63, 64, 65, 66, 67, 68, 69, 70, 71, 72, 73, 74, 75, 76, 77, 78, 79, 80, 81, 82, 83, 84, 85, 86, 87, 88, 89, 90, 91, 92, 93, 94, 95, 96, 97, 98, 99, 100, 101, 102, 103, 104, 105, 106, 107, 108, 109, 110, 111, 112, 113, 114, 115, 116, 117, 118, 119, 120, 121, 122, 123, 124, 125, 126, 127, 128, 129, 130, 131, 132, 133, 134, 135, 136, 137, 138, 10, 139, 140, 22, 23, 24, 25, 141, 142, 143, 144, 145, 146, 147, 148, 149, 150, 151, 152, 153, 154, 155, 156, 157, 15, 165, 166, 167, 168, 169, 170, 171, 172, 173, 174, 175, 176, 177, 178, 179, 180] (by decide +kernel) (by decide +kernel)
set_option maxRecDepth 20000 in
theorem gX3_evening_X2_tellTo_n149 : GoodIn wsX3_evening (wsX2_tellTo) := ggX3_evening_X2_tellTo
set_option maxRecDepth 20000 in
theorem ggX3_evening_X0_become : GoodIn wsX3_evening wsX0_become := goodIn_r _ [12, 13, 14, 15, 16, 17, 18, 19, 20, 21, 22, 23, 24, 25, 171, 172, 173, 174, 175, 176, 177, 178, 179, 180] (by decide +kernel) (by decide +kernel)
set_option maxRecDepth 20000 in
theorem gX3_evening_X0_become_n153 : GoodIn wsX3_evening (wsX0_become) := ggX3_evening_X0_become
theorem dX3_evening_0 : decode cX3_evening 0 = .ok (.aload_n 0, 1) := by decide +kernel
theorem dX3_evening_1 : decode cX3_evening 1 = .ok (.invokevirtual 124, 3) := by decide +kernel
theorem dX3_evening_4 : decode cX3_evening 4 = .ok (.aload_n 0, 1) := by decide +kernel
theorem dX3_evening_5 : decode cX3_evening 5 = .ok (.getfield 29, 3) := by decide +kernel
theorem dX3_evening_8 : decode cX3_evening 8 = .ok (.aload_n 0, 1) := by decide +kernel
theorem dX3_evening_9 : decode cX3_evening 9 = .ok (.getfield 16, 3) := by decide +kernel
theorem dX3_evening_12 : decode cX3_evening 12 = .ok (.invokevirtual 149, 3) := by decide +kernel
theorem dX3_evening_15 : decode cX3_evening 15 = .ok (.istore_n 1, 1) := by decide +kernel
theorem dX3_evening_16 : decode cX3_evening 16 = .ok (.iload_n 1, 1) := by decide +kernel
theorem dX3_evening_17 : decode cX3_evening 17 = .ok (.ifCond .lt 14, 3) := by decide +kernel
theorem dX3_evening_20 : decode cX3_evening 20 = .ok (.aload_n 0, 1) := by decide +kernel
theorem dX3_evening_21 : decode cX3_evening 21 = .ok (.getfield 12, 3) := by decide +kernel
theorem dX3_evening_24 : decode cX3_evening 24 = .ok (.aload_n 0, 1) := by decide +kernel
theorem dX3_evening_25 : decode cX3_evening 25 = .ok (.getfield 16, 3) := by decide +kernel
theorem dX3_evening_28 : decode cX3_evening 28 = .ok (.invokevirtual 153, 3) := by decide +kernel
theorem dX3_evening_31 : decode cX3_evening 31 = .ok (.aload_n 0, 1) := by decide +kernel
theorem dX3_evening_32 : decode cX3_evening 32 = .ok (.getfield 29, 3) := by decide +kernel
theorem dX3_evening_35 : decode cX3_evening 35 = .ok (.iconst 0, 1) := by decide +kernel
theorem dX3_evening_36 : decode cX3_evening 36 = .ok (.putfield 142, 3) := by decide +kernel
theorem dX3_evening_39 : decode cX3_evening 39 = .ok (.iload_n 1, 1) := by decide +kernel
theorem dX3_evening_40 : decode cX3_evening 40 = .ok (.ireturn, 1) := by decide +kernel
set_option maxRecDepth 20000 in
theorem ggX3_sheet_X3_isSheet : GoodIn wsX3_sheet wsX3_isSheet := goodIn_r _ [7, 8, 9, 6, 10] (by decide +kernel) (by decide +kernel)
set_option maxRecDepth 20000 in
theorem gX3_sheet_X3_isSheet : GoodIn wsX3_sheet (va_wsS RX3 157 yX3_isSheet wsX3_isSheet) := goodIn_app (goodIn_of _ (by decide +kernel)) ggX3_sheet_X3_isSheet
set_option maxRecDepth 20000 in
theorem ggX3_sheet_X3_finding : GoodIn wsX3_sheet wsX3_finding := goodIn_r _ [14, 1, 15, 23, 24, 25, 26, 27, 28, 29] (by decide +kernel) (by decide +kernel)
set_option maxRecDepth 20000 in
theorem gX3_sheet_X3_finding : GoodIn wsX3_sheet (wsV RX3 49 RX3 yX3_finding wsX3_finding) := goodIn_app (goodIn_of _ (by decide +kernel)) ggX3_sheet_X3_finding
set_option maxRecDepth 20000 in
theorem ggX3_sheet_X1_layOut : GoodIn wsX3_sheet wsX1_layOut := goodIn_r _ [19, 20, 21, 22, 30, 31, 32] (by decide +kernel) (by decide +kernel)
set_option maxRecDepth 20000 in
theorem gX3_sheet_X1_layOut_n161 : GoodIn wsX3_sheet (wsX1_layOut) := ggX3_sheet_X1_layOut
theorem dX3_sheet_0 : decode cX3_sheet 0 = .ok (.iload_n 1, 1) := by decide +kernel
theorem dX3_sheet_1 : decode cX3_sheet 1 = .ok (.invokestatic 157, 3) := by decide +kernel
theorem dX3_sheet_4 : decode cX3_sheet 4 = .ok (.ifCond .eq 25, 3) := by decide +kernel
theorem dX3_sheet_7 : decode cX3_sheet 7 = .ok (.iload_n 2, 1) := by decide +kernel
theorem dX3_sheet_8 : decode cX3_sheet 8 = .ok (.ifCond .eq 28, 3) := by decide +kernel
theorem dX3_sheet_11 : decode cX3_sheet 11 = .ok (.iload_n 2, 1) := by decide +kernel
theorem dX3_sheet_12 : decode cX3_sheet 12 = .ok (.bipush 8, 2) := by decide +kernel
theorem dX3_sheet_14 : decode cX3_sheet 14 = .ok (.if_icmp .eq 22, 3) := by decide +kernel
theorem dX3_sheet_17 : decode cX3_sheet 17 = .ok (.iload_n 2, 1) := by decide +kernel
theorem dX3_sheet_18 : decode cX3_sheet 18 = .ok (.bipush 16, 2) := by decide +kernel
theorem dX3_sheet_20 : decode cX3_sheet 20 = .ok (.if_icmp .eq 16, 3) := by decide +kernel
theorem dX3_sheet_23 : decode cX3_sheet 23 = .ok (.iload_n 2, 1) := by decide +kernel
theorem dX3_sheet_24 : decode cX3_sheet 24 = .ok (.bipush 64, 2) := by decide +kernel
theorem dX3_sheet_26 : decode cX3_sheet 26 = .ok (.if_icmp .eq 10, 3) := by decide +kernel
theorem dX3_sheet_29 : decode cX3_sheet 29 = .ok (.aload_n 0, 1) := by decide +kernel
theorem dX3_sheet_30 : decode cX3_sheet 30 = .ok (.ldc 48, 2) := by decide +kernel
theorem dX3_sheet_32 : decode cX3_sheet 32 = .ok (.invokevirtual 49, 3) := by decide +kernel
theorem dX3_sheet_35 : decode cX3_sheet 35 = .ok (.ireturn, 1) := by decide +kernel
theorem dX3_sheet_36 : decode cX3_sheet 36 = .ok (.iload_n 3, 1) := by decide +kernel
theorem dX3_sheet_37 : decode cX3_sheet 37 = .ok (.ifCond .ge 10, 3) := by decide +kernel
theorem dX3_sheet_40 : decode cX3_sheet 40 = .ok (.aload_n 0, 1) := by decide +kernel
theorem dX3_sheet_41 : decode cX3_sheet 41 = .ok (.ldc 160, 2) := by decide +kernel
theorem dX3_sheet_43 : decode cX3_sheet 43 = .ok (.invokevirtual 49, 3) := by decide +kernel
theorem dX3_sheet_46 : decode cX3_sheet 46 = .ok (.ireturn, 1) := by decide +kernel
theorem dX3_sheet_47 : decode cX3_sheet 47 = .ok (.iload_n 3, 1) := by decide +kernel
theorem dX3_sheet_48 : decode cX3_sheet 48 = .ok (.bipush 40, 2) := by decide +kernel
theorem dX3_sheet_50 : decode cX3_sheet 50 = .ok (.if_icmp .le 10, 3) := by decide +kernel
theorem dX3_sheet_53 : decode cX3_sheet 53 = .ok (.aload_n 0, 1) := by decide +kernel
theorem dX3_sheet_54 : decode cX3_sheet 54 = .ok (.ldc 48, 2) := by decide +kernel
theorem dX3_sheet_56 : decode cX3_sheet 56 = .ok (.invokevirtual 49, 3) := by decide +kernel
theorem dX3_sheet_59 : decode cX3_sheet 59 = .ok (.ireturn, 1) := by decide +kernel
theorem dX3_sheet_60 : decode cX3_sheet 60 = .ok (.aload_n 0, 1) := by decide +kernel
theorem dX3_sheet_61 : decode cX3_sheet 61 = .ok (.getfield 35, 3) := by decide +kernel
theorem dX3_sheet_64 : decode cX3_sheet 64 = .ok (.iload_n 1, 1) := by decide +kernel
theorem dX3_sheet_65 : decode cX3_sheet 65 = .ok (.aaload, 1) := by decide +kernel
theorem dX3_sheet_66 : decode cX3_sheet 66 = .ok (.iload_n 2, 1) := by decide +kernel
theorem dX3_sheet_67 : decode cX3_sheet 67 = .ok (.iload_n 3, 1) := by decide +kernel
theorem dX3_sheet_68 : decode cX3_sheet 68 = .ok (.invokevirtual 161, 3) := by decide +kernel
theorem dX3_sheet_71 : decode cX3_sheet 71 = .ok (.aload_n 0, 1) := by decide +kernel
theorem dX3_sheet_72 : decode cX3_sheet 72 = .ok (.getfield 35, 3) := by decide +kernel
theorem dX3_sheet_75 : decode cX3_sheet 75 = .ok (.iload_n 1, 1) := by decide +kernel
theorem dX3_sheet_76 : decode cX3_sheet 76 = .ok (.aaload, 1) := by decide +kernel
theorem dX3_sheet_77 : decode cX3_sheet 77 = .ok (.getfield 164, 3) := by decide +kernel
theorem dX3_sheet_80 : decode cX3_sheet 80 = .ok (.ireturn, 1) := by decide +kernel
set_option maxRecDepth 20000 in
theorem ggX3_write_X3_isSheet : GoodIn wsX3_write wsX3_isSheet := goodIn_r _ [7, 8, 9, 6, 10] (by decide +kernel) (by decide +kernel)
set_option maxRecDepth 20000 in
theorem gX3_write_X3_isSheet : GoodIn wsX3_write (va_wsS RX3 157 yX3_isSheet wsX3_isSheet) := goodIn_app (goodIn_of _ (by decide +kernel)) ggX3_write_X3_isSheet
set_option maxRecDepth 20000 in
theorem ggX3_write_X3_finding : GoodIn wsX3_write wsX3_finding := goodIn_r _ [14, 1, 15, 25, 26, 27, 28, 29, 30, 31] (by decide +kernel) (by decide +kernel)
set_option maxRecDepth 20000 in
theorem gX3_write_X3_finding : GoodIn wsX3_write (wsV RX3 49 RX3 yX3_finding wsX3_finding) := goodIn_app (goodIn_of _ (by decide +kernel)) ggX3_write_X3_finding
set_option maxRecDepth 20000 in
theorem ggX3_write_X1_isMissing : GoodIn wsX3_write wsX1_isMissing := goodIn_r _ [19, 20, 32, 33, 34] (by decide +kernel) (by decide +kernel)
set_option maxRecDepth 20000 in
theorem gX3_write_X1_isMissing_n167 : GoodIn wsX3_write (wsX1_isMissing) := ggX3_write_X1_isMissing
set_option maxRecDepth 20000 in
theorem ggX3_write_X3_isIn : GoodIn wsX3_write wsX3_isIn := goodIn_r _ [10] (by decide +kernel) (by decide +kernel)
set_option maxRecDepth 20000 in
theorem gX3_write_X3_isIn : GoodIn wsX3_write (va_wsS RX3 44 yX3_isIn wsX3_isIn) := goodIn_app (goodIn_of _ (by decide +kernel)) ggX3_write_X3_isIn
set_option maxRecDepth 20000 in
theorem ggX3_write_X1_put : GoodIn wsX3_write wsX1_put := goodIn_r _ [23, 24, 20, 32, 33, 34] (by decide +kernel) (by decide +kernel)
set_option maxRecDepth 20000 in
theorem gX3_write_X1_put_n176 : GoodIn wsX3_write (wsX1_put) := ggX3_write_X1_put
theorem dX3_write_0 : decode cX3_write 0 = .ok (.iload_n 1, 1) := by decide +kernel
theorem dX3_write_1 : decode cX3_write 1 = .ok (.invokestatic 157, 3) := by decide +kernel
theorem dX3_write_4 : decode cX3_write 4 = .ok (.ifCond .ne 11, 3) := by decide +kernel
theorem dX3_write_7 : decode cX3_write 7 = .ok (.aload_n 0, 1) := by decide +kernel
theorem dX3_write_8 : decode cX3_write 8 = .ok (.ldc 48, 2) := by decide +kernel
theorem dX3_write_10 : decode cX3_write 10 = .ok (.invokevirtual 49, 3) := by decide +kernel
theorem dX3_write_13 : decode cX3_write 13 = .ok (.i2l, 1) := by decide +kernel
theorem dX3_write_14 : decode cX3_write 14 = .ok (.lreturn, 1) := by decide +kernel
theorem dX3_write_15 : decode cX3_write 15 = .ok (.aload_n 0, 1) := by decide +kernel
theorem dX3_write_16 : decode cX3_write 16 = .ok (.getfield 35, 3) := by decide +kernel
theorem dX3_write_19 : decode cX3_write 19 = .ok (.iload_n 1, 1) := by decide +kernel
theorem dX3_write_20 : decode cX3_write 20 = .ok (.aaload, 1) := by decide +kernel
theorem dX3_write_21 : decode cX3_write 21 = .ok (.astore 5, 2) := by decide +kernel
theorem dX3_write_23 : decode cX3_write 23 = .ok (.aload 5, 2) := by decide +kernel
theorem dX3_write_25 : decode cX3_write 25 = .ok (.invokevirtual 167, 3) := by decide +kernel
theorem dX3_write_28 : decode cX3_write 28 = .ok (.ifCond .eq 11, 3) := by decide +kernel
theorem dX3_write_31 : decode cX3_write 31 = .ok (.aload_n 0, 1) := by decide +kernel
theorem dX3_write_32 : decode cX3_write 32 = .ok (.ldc 171, 2) := by decide +kernel
theorem dX3_write_34 : decode cX3_write 34 = .ok (.invokevirtual 49, 3) := by decide +kernel
theorem dX3_write_37 : decode cX3_write 37 = .ok (.i2l, 1) := by decide +kernel
theorem dX3_write_38 : decode cX3_write 38 = .ok (.lreturn, 1) := by decide +kernel
theorem dX3_write_39 : decode cX3_write 39 = .ok (.iload_n 2, 1) := by decide +kernel
theorem dX3_write_40 : decode cX3_write 40 = .ok (.iconst 0, 1) := by decide +kernel
theorem dX3_write_41 : decode cX3_write 41 = .ok (.aload 5, 2) := by decide +kernel
theorem dX3_write_43 : decode cX3_write 43 = .ok (.getfield 164, 3) := by decide +kernel
theorem dX3_write_46 : decode cX3_write 46 = .ok (.iconst 1, 1) := by decide +kernel
theorem dX3_write_47 : decode cX3_write 47 = .ok (.isub, 1) := by decide +kernel
theorem dX3_write_48 : decode cX3_write 48 = .ok (.invokestatic 44, 3) := by decide +kernel
theorem dX3_write_51 : decode cX3_write 51 = .ok (.ifCond .ne 11, 3) := by decide +kernel
theorem dX3_write_54 : decode cX3_write 54 = .ok (.aload_n 0, 1) := by decide +kernel
theorem dX3_write_55 : decode cX3_write 55 = .ok (.ldc 48, 2) := by decide +kernel
theorem dX3_write_57 : decode cX3_write 57 = .ok (.invokevirtual 49, 3) := by decide +kernel
theorem dX3_write_60 : decode cX3_write 60 = .ok (.i2l, 1) := by decide +kernel
theorem dX3_write_61 : decode cX3_write 61 = .ok (.lreturn, 1) := by decide +kernel
theorem dX3_write_62 : decode cX3_write 62 = .ok (.aload 5, 2) := by decide +kernel
theorem dX3_write_64 : decode cX3_write 64 = .ok (.getfield 172, 3) := by decide +kernel
theorem dX3_write_67 : decode cX3_write 67 = .ok (.iload_n 2, 1) := by decide +kernel
theorem dX3_write_68 : decode cX3_write 68 = .ok (.laload, 1) := by decide +kernel
theorem dX3_write_69 : decode cX3_write 69 = .ok (.lstore 6, 2) := by decide +kernel
theorem dX3_write_71 : decode cX3_write 71 = .ok (.aload 5, 2) := by decide +kernel
theorem dX3_write_73 : decode cX3_write 73 = .ok (.iload_n 2, 1) := by decide +kernel
theorem dX3_write_74 : decode cX3_write 74 = .ok (.lload_n 3, 1) := by decide +kernel
theorem dX3_write_75 : decode cX3_write 75 = .ok (.invokevirtual 176, 3) := by decide +kernel
theorem dX3_write_78 : decode cX3_write 78 = .ok (.lload 6, 2) := by decide +kernel
theorem dX3_write_80 : decode cX3_write 80 = .ok (.lreturn, 1) := by decide +kernel
set_option maxRecDepth 20000 in
theorem ggX3_copy_X3_isSheet : GoodIn wsX3_copy wsX3_isSheet := goodIn_r _ [12, 13, 14, 11, 15] (by decide +kernel) (by decide +kernel)
set_option maxRecDepth 20000 in
theorem gX3_copy_X3_isSheet : GoodIn wsX3_copy (va_wsS RX3 157 yX3_isSheet wsX3_isSheet) := goodIn_app (goodIn_of _ (by decide +kernel)) ggX3_copy_X3_isSheet
set_option maxRecDepth 20000 in
theorem ggX3_copy_X3_finding : GoodIn wsX3_copy wsX3_finding := goodIn_r _ [19, 1, 20, 30, 31, 32, 33, 34, 35, 36] (by decide +kernel) (by decide +kernel)
set_option maxRecDepth 20000 in
theorem gX3_copy_X3_finding : GoodIn wsX3_copy (wsV RX3 49 RX3 yX3_finding wsX3_finding) := goodIn_app (goodIn_of _ (by decide +kernel)) ggX3_copy_X3_finding
set_option maxRecDepth 20000 in
theorem ggX3_copy_X1_isMissing : GoodIn wsX3_copy wsX1_isMissing := goodIn_r _ [24, 25, 37, 38, 39] (by decide +kernel) (by decide +kernel)
set_option maxRecDepth 20000 in
theorem gX3_copy_X1_isMissing_n167 : GoodIn wsX3_copy (wsX1_isMissing) := ggX3_copy_X1_isMissing
set_option maxRecDepth 20000 in
theorem ggX3_copy_X1_has : GoodIn wsX3_copy wsX1_has := goodIn_r _ [28, 29, 37, 38, 39] (by decide +kernel) (by decide +kernel)
set_option maxRecDepth 20000 in
theorem gX3_copy_X1_has_n183 : GoodIn wsX3_copy (wsX1_has) := ggX3_copy_X1_has
theorem dX3_copy_0 : decode cX3_copy 0 = .ok (.iload_n 1, 1) := by decide +kernel
theorem dX3_copy_1 : decode cX3_copy 1 = .ok (.invokestatic 157, 3) := by decide +kernel
theorem dX3_copy_4 : decode cX3_copy 4 = .ok (.ifCond .eq 10, 3) := by decide +kernel
theorem dX3_copy_7 : decode cX3_copy 7 = .ok (.iload_n 3, 1) := by decide +kernel
theorem dX3_copy_8 : decode cX3_copy 8 = .ok (.invokestatic 157, 3) := by decide +kernel
theorem dX3_copy_11 : decode cX3_copy 11 = .ok (.ifCond .ne 10, 3) := by decide +kernel
theorem dX3_copy_14 : decode cX3_copy 14 = .ok (.aload_n 0, 1) := by decide +kernel
theorem dX3_copy_15 : decode cX3_copy 15 = .ok (.ldc 48, 2) := by decide +kernel
theorem dX3_copy_17 : decode cX3_copy 17 = .ok (.invokevirtual 49, 3) := by decide +kernel
theorem dX3_copy_20 : decode cX3_copy 20 = .ok (.ireturn, 1) := by decide +kernel
theorem dX3_copy_21 : decode cX3_copy 21 = .ok (.aload_n 0, 1) := by decide +kernel
theorem dX3_copy_22 : decode cX3_copy 22 = .ok (.getfield 35, 3) := by decide +kernel
theorem dX3_copy_25 : decode cX3_copy 25 = .ok (.iload_n 1, 1) := by decide +kernel
theorem dX3_copy_26 : decode cX3_copy 26 = .ok (.aaload, 1) := by decide +kernel
theorem dX3_copy_27 : decode cX3_copy 27 = .ok (.astore 6, 2) := by decide +kernel
theorem dX3_copy_29 : decode cX3_copy 29 = .ok (.aload_n 0, 1) := by decide +kernel
theorem dX3_copy_30 : decode cX3_copy 30 = .ok (.getfield 35, 3) := by decide +kernel
theorem dX3_copy_33 : decode cX3_copy 33 = .ok (.iload_n 3, 1) := by decide +kernel
theorem dX3_copy_34 : decode cX3_copy 34 = .ok (.aaload, 1) := by decide +kernel
theorem dX3_copy_35 : decode cX3_copy 35 = .ok (.astore 7, 2) := by decide +kernel
theorem dX3_copy_37 : decode cX3_copy 37 = .ok (.aload 6, 2) := by decide +kernel
theorem dX3_copy_39 : decode cX3_copy 39 = .ok (.invokevirtual 167, 3) := by decide +kernel
theorem dX3_copy_42 : decode cX3_copy 42 = .ok (.ifCond .ne 11, 3) := by decide +kernel
theorem dX3_copy_45 : decode cX3_copy 45 = .ok (.aload 7, 2) := by decide +kernel
theorem dX3_copy_47 : decode cX3_copy 47 = .ok (.invokevirtual 167, 3) := by decide +kernel
theorem dX3_copy_50 : decode cX3_copy 50 = .ok (.ifCond .eq 10, 3) := by decide +kernel
theorem dX3_copy_53 : decode cX3_copy 53 = .ok (.aload_n 0, 1) := by decide +kernel
theorem dX3_copy_54 : decode cX3_copy 54 = .ok (.ldc 171, 2) := by decide +kernel
theorem dX3_copy_56 : decode cX3_copy 56 = .ok (.invokevirtual 49, 3) := by decide +kernel
theorem dX3_copy_59 : decode cX3_copy 59 = .ok (.ireturn, 1) := by decide +kernel
theorem dX3_copy_60 : decode cX3_copy 60 = .ok (.aload 6, 2) := by decide +kernel
