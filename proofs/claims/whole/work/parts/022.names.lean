theorem dX2_takeCue_1 : decode cX2_takeCue 1 = .ok (.invokevirtual 31, 3) := by decide +kernel
theorem dX2_takeCue_4 : decode cX2_takeCue 4 = .ok (.aload_n 0, 1) := by decide +kernel
theorem dX2_takeCue_5 : decode cX2_takeCue 5 = .ok (.bipush 15, 2) := by decide +kernel
theorem dX2_takeCue_7 : decode cX2_takeCue 7 = .ok (.invokevirtual 75, 3) := by decide +kernel
theorem dX2_takeCue_10 : decode cX2_takeCue 10 = .ok (.ifCond .ne 5, 3) := by decide +kernel
theorem dX2_takeCue_13 : decode cX2_takeCue 13 = .ok (.iconst 0, 1) := by decide +kernel
theorem dX2_takeCue_14 : decode cX2_takeCue 14 = .ok (.ireturn, 1) := by decide +kernel
theorem dX2_takeCue_15 : decode cX2_takeCue 15 = .ok (.aload_n 0, 1) := by decide +kernel
theorem dX2_takeCue_16 : decode cX2_takeCue 16 = .ok (.getfield 28, 3) := by decide +kernel
theorem dX2_takeCue_19 : decode cX2_takeCue 19 = .ok (.istore_n 2, 1) := by decide +kernel
theorem dX2_takeCue_20 : decode cX2_takeCue 20 = .ok (.aload_n 0, 1) := by decide +kernel
theorem dX2_takeCue_21 : decode cX2_takeCue 21 = .ok (.invokevirtual 31, 3) := by decide +kernel
theorem dX2_takeCue_24 : decode cX2_takeCue 24 = .ok (.aload_n 0, 1) := by decide +kernel
theorem dX2_takeCue_25 : decode cX2_takeCue 25 = .ok (.invokevirtual 83, 3) := by decide +kernel
theorem dX2_takeCue_28 : decode cX2_takeCue 28 = .ok (.istore_n 3, 1) := by decide +kernel
theorem dX2_takeCue_29 : decode cX2_takeCue 29 = .ok (.iload_n 3, 1) := by decide +kernel
theorem dX2_takeCue_30 : decode cX2_takeCue 30 = .ok (.ifCond .ge 5, 3) := by decide +kernel
theorem dX2_takeCue_33 : decode cX2_takeCue 33 = .ok (.iconst 0, 1) := by decide +kernel
theorem dX2_takeCue_34 : decode cX2_takeCue 34 = .ok (.ireturn, 1) := by decide +kernel
theorem dX2_takeCue_35 : decode cX2_takeCue 35 = .ok (.aload_n 1, 1) := by decide +kernel
theorem dX2_takeCue_36 : decode cX2_takeCue 36 = .ok (.getfield 86, 3) := by decide +kernel
theorem dX2_takeCue_39 : decode cX2_takeCue 39 = .ok (.iload_n 2, 1) := by decide +kernel
theorem dX2_takeCue_40 : decode cX2_takeCue 40 = .ok (.iload_n 3, 1) := by decide +kernel
theorem dX2_takeCue_41 : decode cX2_takeCue 41 = .ok (.iastore, 1) := by decide +kernel
theorem dX2_takeCue_42 : decode cX2_takeCue 42 = .ok (.aload_n 0, 1) := by decide +kernel
theorem dX2_takeCue_43 : decode cX2_takeCue 43 = .ok (.invokevirtual 31, 3) := by decide +kernel
theorem dX2_takeCue_46 : decode cX2_takeCue 46 = .ok (.iconst 1, 1) := by decide +kernel
theorem dX2_takeCue_47 : decode cX2_takeCue 47 = .ok (.ireturn, 1) := by decide +kernel
set_option maxRecDepth 20000 in
theorem ggX2_takeTense_X2_take : GoodIn wsX2_takeTense wsX2_take := goodIn_r _ [6, 7, 8, 9, 10, 11, 12, 13, 5, 14, 15, 16, 17, 18, 19, 20, 21, 22, 23, 24, 25, 1, 26, 27, 28, 29, 34, 35, 36, 37, 38, 39] (by decide +kernel) (by decide +kernel)
set_option maxRecDepth 20000 in
theorem gX2_takeTense_X2_take : GoodIn wsX2_takeTense (wsV RX2 31 RX2 yX2_take wsX2_take) := goodIn_app (goodIn_of _ (by decide +kernel)) ggX2_takeTense_X2_take
set_option maxRecDepth 20000 in
theorem ggX2_takeTense_X2_isNumberTo : GoodIn wsX2_takeTense wsX2_isNumberTo := goodIn_r _ [33, 11, 1, 34, 35, 36, 37, 38, 39] (by decide +kernel) (by decide +kernel)
set_option maxRecDepth 20000 in
theorem gX2_takeTense_X2_isNumberTo : GoodIn wsX2_takeTense (wsV RX2 75 RX2 yX2_isNumberTo wsX2_isNumberTo) := goodIn_app (goodIn_of _ (by decide +kernel)) ggX2_takeTense_X2_isNumberTo
theorem dX2_takeTense_0 : decode cX2_takeTense 0 = .ok (.aload_n 0, 1) := by decide +kernel
theorem dX2_takeTense_1 : decode cX2_takeTense 1 = .ok (.invokevirtual 31, 3) := by decide +kernel
theorem dX2_takeTense_4 : decode cX2_takeTense 4 = .ok (.aload_n 0, 1) := by decide +kernel
theorem dX2_takeTense_5 : decode cX2_takeTense 5 = .ok (.bipush 15, 2) := by decide +kernel
theorem dX2_takeTense_7 : decode cX2_takeTense 7 = .ok (.invokevirtual 75, 3) := by decide +kernel
theorem dX2_takeTense_10 : decode cX2_takeTense 10 = .ok (.ifCond .ne 5, 3) := by decide +kernel
theorem dX2_takeTense_13 : decode cX2_takeTense 13 = .ok (.iconst 0, 1) := by decide +kernel
theorem dX2_takeTense_14 : decode cX2_takeTense 14 = .ok (.ireturn, 1) := by decide +kernel
theorem dX2_takeTense_15 : decode cX2_takeTense 15 = .ok (.aload_n 0, 1) := by decide +kernel
theorem dX2_takeTense_16 : decode cX2_takeTense 16 = .ok (.getfield 28, 3) := by decide +kernel
theorem dX2_takeTense_19 : decode cX2_takeTense 19 = .ok (.istore_n 2, 1) := by decide +kernel
theorem dX2_takeTense_20 : decode cX2_takeTense 20 = .ok (.aload_n 0, 1) := by decide +kernel
theorem dX2_takeTense_21 : decode cX2_takeTense 21 = .ok (.invokevirtual 31, 3) := by decide +kernel
theorem dX2_takeTense_24 : decode cX2_takeTense 24 = .ok (.aload_n 0, 1) := by decide +kernel
theorem dX2_takeTense_25 : decode cX2_takeTense 25 = .ok (.bipush 20, 2) := by decide +kernel
theorem dX2_takeTense_27 : decode cX2_takeTense 27 = .ok (.invokevirtual 75, 3) := by decide +kernel
theorem dX2_takeTense_30 : decode cX2_takeTense 30 = .ok (.ifCond .ne 5, 3) := by decide +kernel
theorem dX2_takeTense_33 : decode cX2_takeTense 33 = .ok (.iconst 0, 1) := by decide +kernel
theorem dX2_takeTense_34 : decode cX2_takeTense 34 = .ok (.ireturn, 1) := by decide +kernel
theorem dX2_takeTense_35 : decode cX2_takeTense 35 = .ok (.aload_n 1, 1) := by decide +kernel
theorem dX2_takeTense_36 : decode cX2_takeTense 36 = .ok (.getfield 89, 3) := by decide +kernel
theorem dX2_takeTense_39 : decode cX2_takeTense 39 = .ok (.iload_n 2, 1) := by decide +kernel
theorem dX2_takeTense_40 : decode cX2_takeTense 40 = .ok (.aload_n 0, 1) := by decide +kernel
theorem dX2_takeTense_41 : decode cX2_takeTense 41 = .ok (.getfield 28, 3) := by decide +kernel
theorem dX2_takeTense_44 : decode cX2_takeTense 44 = .ok (.iastore, 1) := by decide +kernel
theorem dX2_takeTense_45 : decode cX2_takeTense 45 = .ok (.aload_n 0, 1) := by decide +kernel
theorem dX2_takeTense_46 : decode cX2_takeTense 46 = .ok (.invokevirtual 31, 3) := by decide +kernel
theorem dX2_takeTense_49 : decode cX2_takeTense 49 = .ok (.iconst 1, 1) := by decide +kernel
theorem dX2_takeTense_50 : decode cX2_takeTense 50 = .ok (.ireturn, 1) := by decide +kernel
set_option maxRecDepth 20000 in
theorem ggX2_takeSwap_X2_take : GoodIn wsX2_takeSwap wsX2_take := goodIn_r _ [6, 7, 8, 9, 10, 11, 12, 13, 5, 14, 15, 16, 17, 18, 19, 20, 21, 22, 23, 24, 25, 1, 26, 27, 28, 29, 55, 56, 57, 58, 59, 60] (by decide +kernel) (by decide +kernel)
set_option maxRecDepth 20000 in
theorem gX2_takeSwap_X2_take : GoodIn wsX2_takeSwap (wsV RX2 31 RX2 yX2_take wsX2_take) := goodIn_app (goodIn_of _ (by decide +kernel)) ggX2_takeSwap_X2_take
set_option maxRecDepth 20000 in
theorem ggX2_takeSwap_X2_isNumberTo : GoodIn wsX2_takeSwap wsX2_isNumberTo := goodIn_r _ [33, 11, 1, 55, 56, 57, 58, 59, 60] (by decide +kernel) (by decide +kernel)
set_option maxRecDepth 20000 in
theorem gX2_takeSwap_X2_isNumberTo : GoodIn wsX2_takeSwap (wsV RX2 75 RX2 yX2_isNumberTo wsX2_isNumberTo) := goodIn_app (goodIn_of _ (by decide +kernel)) ggX2_takeSwap_X2_isNumberTo
set_option maxRecDepth 20000 in
theorem ggX2_takeSwap_X0_changeSeats : GoodIn wsX2_takeSwap wsX0_changeSeats := goodIn_r _ [37, 38, 39, 40, 41, 42, 43, 35, 44, 45, 46, 47, 48, 49, 50, 51, 52, 53, 54] (by decide +kernel) (by decide +kernel)
set_option maxRecDepth 20000 in
theorem gX2_takeSwap_X0_changeSeats_n92 : GoodIn wsX2_takeSwap (wsX0_changeSeats) := ggX2_takeSwap_X0_changeSeats
theorem dX2_takeSwap_0 : decode cX2_takeSwap 0 = .ok (.aload_n 0, 1) := by decide +kernel
theorem dX2_takeSwap_1 : decode cX2_takeSwap 1 = .ok (.invokevirtual 31, 3) := by decide +kernel
theorem dX2_takeSwap_4 : decode cX2_takeSwap 4 = .ok (.aload_n 0, 1) := by decide +kernel
theorem dX2_takeSwap_5 : decode cX2_takeSwap 5 = .ok (.aload_n 1, 1) := by decide +kernel
theorem dX2_takeSwap_6 : decode cX2_takeSwap 6 = .ok (.getfield 64, 3) := by decide +kernel
theorem dX2_takeSwap_9 : decode cX2_takeSwap 9 = .ok (.iconst 1, 1) := by decide +kernel
theorem dX2_takeSwap_10 : decode cX2_takeSwap 10 = .ok (.isub, 1) := by decide +kernel
theorem dX2_takeSwap_11 : decode cX2_takeSwap 11 = .ok (.invokevirtual 75, 3) := by decide +kernel
theorem dX2_takeSwap_14 : decode cX2_takeSwap 14 = .ok (.ifCond .ne 5, 3) := by decide +kernel
theorem dX2_takeSwap_17 : decode cX2_takeSwap 17 = .ok (.iconst 0, 1) := by decide +kernel
theorem dX2_takeSwap_18 : decode cX2_takeSwap 18 = .ok (.ireturn, 1) := by decide +kernel
theorem dX2_takeSwap_19 : decode cX2_takeSwap 19 = .ok (.aload_n 0, 1) := by decide +kernel
theorem dX2_takeSwap_20 : decode cX2_takeSwap 20 = .ok (.getfield 28, 3) := by decide +kernel
theorem dX2_takeSwap_23 : decode cX2_takeSwap 23 = .ok (.istore_n 2, 1) := by decide +kernel
theorem dX2_takeSwap_24 : decode cX2_takeSwap 24 = .ok (.aload_n 0, 1) := by decide +kernel
theorem dX2_takeSwap_25 : decode cX2_takeSwap 25 = .ok (.invokevirtual 31, 3) := by decide +kernel
theorem dX2_takeSwap_28 : decode cX2_takeSwap 28 = .ok (.aload_n 0, 1) := by decide +kernel
theorem dX2_takeSwap_29 : decode cX2_takeSwap 29 = .ok (.aload_n 1, 1) := by decide +kernel
theorem dX2_takeSwap_30 : decode cX2_takeSwap 30 = .ok (.getfield 64, 3) := by decide +kernel
theorem dX2_takeSwap_33 : decode cX2_takeSwap 33 = .ok (.iconst 1, 1) := by decide +kernel
theorem dX2_takeSwap_34 : decode cX2_takeSwap 34 = .ok (.isub, 1) := by decide +kernel
theorem dX2_takeSwap_35 : decode cX2_takeSwap 35 = .ok (.invokevirtual 75, 3) := by decide +kernel
theorem dX2_takeSwap_38 : decode cX2_takeSwap 38 = .ok (.ifCond .eq 11, 3) := by decide +kernel
theorem dX2_takeSwap_41 : decode cX2_takeSwap 41 = .ok (.aload_n 0, 1) := by decide +kernel
theorem dX2_takeSwap_42 : decode cX2_takeSwap 42 = .ok (.getfield 28, 3) := by decide +kernel
theorem dX2_takeSwap_45 : decode cX2_takeSwap 45 = .ok (.iload_n 2, 1) := by decide +kernel
theorem dX2_takeSwap_46 : decode cX2_takeSwap 46 = .ok (.if_icmp .ne 5, 3) := by decide +kernel
theorem dX2_takeSwap_49 : decode cX2_takeSwap 49 = .ok (.iconst 0, 1) := by decide +kernel
theorem dX2_takeSwap_50 : decode cX2_takeSwap 50 = .ok (.ireturn, 1) := by decide +kernel
theorem dX2_takeSwap_51 : decode cX2_takeSwap 51 = .ok (.aload_n 1, 1) := by decide +kernel
theorem dX2_takeSwap_52 : decode cX2_takeSwap 52 = .ok (.iload_n 2, 1) := by decide +kernel
theorem dX2_takeSwap_53 : decode cX2_takeSwap 53 = .ok (.aload_n 0, 1) := by decide +kernel
theorem dX2_takeSwap_54 : decode cX2_takeSwap 54 = .ok (.getfield 28, 3) := by decide +kernel
theorem dX2_takeSwap_57 : decode cX2_takeSwap 57 = .ok (.invokevirtual 92, 3) := by decide +kernel
theorem dX2_takeSwap_60 : decode cX2_takeSwap 60 = .ok (.aload_n 0, 1) := by decide +kernel
theorem dX2_takeSwap_61 : decode cX2_takeSwap 61 = .ok (.invokevirtual 31, 3) := by decide +kernel
theorem dX2_takeSwap_64 : decode cX2_takeSwap 64 = .ok (.iconst 1, 1) := by decide +kernel
theorem dX2_takeSwap_65 : decode cX2_takeSwap 65 = .ok (.ireturn, 1) := by decide +kernel
set_option maxRecDepth 20000 in
theorem ggX2_kindNamed_X2_nameOfKind : GoodIn wsX2_kindNamed wsX2_nameOfKind := goodIn_r _ [4] (by decide +kernel) (by decide +kernel)
set_option maxRecDepth 20000 in
theorem gX2_kindNamed_X2_nameOfKind : GoodIn wsX2_kindNamed (va_wsS RX2 96 yX2_nameOfKind wsX2_nameOfKind) := goodIn_app (goodIn_of _ (by decide +kernel)) ggX2_kindNamed_X2_nameOfKind
set_option maxRecDepth 20000 in
theorem ggX2_kindNamed_X2_isWord : GoodIn wsX2_kindNamed wsX2_isWord := goodIn_r _ [8, 9, 10, 11, 12, 13, 14, 15, 16, 17, 18, 19, 20, 21, 22, 23, 24, 25, 26, 27, 28, 29, 30, 31, 32, 33, 34, 35, 36, 37, 38, 39, 40, 41, 42, 43, 44, 45, 46, 47, 48, 49, 50, 51, 52, 53, 54, 55, 56, 57, 58, 59, 60, 61, 62, 63, 64, 65, 66, 67] (by decide +kernel) (by decide +kernel)
set_option maxRecDepth 20000 in
theorem gX2_kindNamed_X2_isWord : GoodIn wsX2_kindNamed (wsV RX2 40 RX2 yX2_isWord wsX2_isWord) := goodIn_app (goodIn_of _ (by decide +kernel)) ggX2_kindNamed_X2_isWord
theorem dX2_kindNamed_0 : decode cX2_kindNamed 0 = .ok (.iconst 0, 1) := by decide +kernel
theorem dX2_kindNamed_1 : decode cX2_kindNamed 1 = .ok (.istore_n 1, 1) := by decide +kernel
theorem dX2_kindNamed_2 : decode cX2_kindNamed 2 = .ok (.iload_n 1, 1) := by decide +kernel
theorem dX2_kindNamed_3 : decode cX2_kindNamed 3 = .ok (.bipush 6, 2) := by decide +kernel
theorem dX2_kindNamed_5 : decode cX2_kindNamed 5 = .ok (.if_icmp .ge 22, 3) := by decide +kernel
theorem dX2_kindNamed_8 : decode cX2_kindNamed 8 = .ok (.aload_n 0, 1) := by decide +kernel
theorem dX2_kindNamed_9 : decode cX2_kindNamed 9 = .ok (.iload_n 1, 1) := by decide +kernel
theorem dX2_kindNamed_10 : decode cX2_kindNamed 10 = .ok (.invokestatic 96, 3) := by decide +kernel
theorem dX2_kindNamed_13 : decode cX2_kindNamed 13 = .ok (.invokevirtual 40, 3) := by decide +kernel
theorem dX2_kindNamed_16 : decode cX2_kindNamed 16 = .ok (.ifCond .eq 5, 3) := by decide +kernel
theorem dX2_kindNamed_19 : decode cX2_kindNamed 19 = .ok (.iload_n 1, 1) := by decide +kernel
theorem dX2_kindNamed_20 : decode cX2_kindNamed 20 = .ok (.ireturn, 1) := by decide +kernel
theorem dX2_kindNamed_21 : decode cX2_kindNamed 21 = .ok (.iinc 1 1, 3) := by decide +kernel
theorem dX2_kindNamed_24 : decode cX2_kindNamed 24 = .ok (.goto (-22), 3) := by decide +kernel
theorem dX2_kindNamed_27 : decode cX2_kindNamed 27 = .ok (.iconst (-1), 1) := by decide +kernel
theorem dX2_kindNamed_28 : decode cX2_kindNamed 28 = .ok (.ireturn, 1) := by decide +kernel
set_option maxRecDepth 20000 in
theorem ggX2_cueNamed_X2_nameOfCue : GoodIn wsX2_cueNamed wsX2_nameOfCue := goodIn_r _ [4] (by decide +kernel) (by decide +kernel)
set_option maxRecDepth 20000 in
theorem gX2_cueNamed_X2_nameOfCue : GoodIn wsX2_cueNamed (va_wsS RX2 100 yX2_nameOfCue wsX2_nameOfCue) := goodIn_app (goodIn_of _ (by decide +kernel)) ggX2_cueNamed_X2_nameOfCue
set_option maxRecDepth 20000 in
theorem ggX2_cueNamed_X2_isWord : GoodIn wsX2_cueNamed wsX2_isWord := goodIn_r _ [8, 9, 10, 11, 12, 13, 14, 15, 16, 17, 18, 19, 20, 21, 22, 23, 24, 25, 26, 27, 28, 29, 30, 31, 32, 33, 34, 35, 36, 37, 38, 39, 40, 41, 42, 43, 44, 45, 46, 47, 48, 49, 50, 51, 52, 53, 54, 55, 56, 57, 58, 59, 60, 61, 62, 63, 64, 65, 66, 67] (by decide +kernel) (by decide +kernel)
set_option maxRecDepth 20000 in
theorem gX2_cueNamed_X2_isWord : GoodIn wsX2_cueNamed (wsV RX2 40 RX2 yX2_isWord wsX2_isWord) := goodIn_app (goodIn_of _ (by decide +kernel)) ggX2_cueNamed_X2_isWord
theorem dX2_cueNamed_0 : decode cX2_cueNamed 0 = .ok (.iconst 0, 1) := by decide +kernel
theorem dX2_cueNamed_1 : decode cX2_cueNamed 1 = .ok (.istore_n 1, 1) := by decide +kernel
theorem dX2_cueNamed_2 : decode cX2_cueNamed 2 = .ok (.iload_n 1, 1) := by decide +kernel
theorem dX2_cueNamed_3 : decode cX2_cueNamed 3 = .ok (.iconst 4, 1) := by decide +kernel
theorem dX2_cueNamed_4 : decode cX2_cueNamed 4 = .ok (.if_icmp .gt 22, 3) := by decide +kernel
theorem dX2_cueNamed_7 : decode cX2_cueNamed 7 = .ok (.aload_n 0, 1) := by decide +kernel
theorem dX2_cueNamed_8 : decode cX2_cueNamed 8 = .ok (.iload_n 1, 1) := by decide +kernel
theorem dX2_cueNamed_9 : decode cX2_cueNamed 9 = .ok (.invokestatic 100, 3) := by decide +kernel
theorem dX2_cueNamed_12 : decode cX2_cueNamed 12 = .ok (.invokevirtual 40, 3) := by decide +kernel
theorem dX2_cueNamed_15 : decode cX2_cueNamed 15 = .ok (.ifCond .eq 5, 3) := by decide +kernel
theorem dX2_cueNamed_18 : decode cX2_cueNamed 18 = .ok (.iload_n 1, 1) := by decide +kernel
theorem dX2_cueNamed_19 : decode cX2_cueNamed 19 = .ok (.ireturn, 1) := by decide +kernel
theorem dX2_cueNamed_20 : decode cX2_cueNamed 20 = .ok (.iinc 1 1, 3) := by decide +kernel
theorem dX2_cueNamed_23 : decode cX2_cueNamed 23 = .ok (.goto (-21), 3) := by decide +kernel
theorem dX2_cueNamed_26 : decode cX2_cueNamed 26 = .ok (.iconst (-1), 1) := by decide +kernel
theorem dX2_cueNamed_27 : decode cX2_cueNamed 27 = .ok (.ireturn, 1) := by decide +kernel
theorem dX2_nameOfKind_0 : decode cX2_nameOfKind 0 = .ok (.iload_n 0, 1) := by decide +kernel
theorem dX2_nameOfKind_1 : decode cX2_nameOfKind 1 = .ok (.tableswitch 50 1 5 #[35, 38, 41, 44, 47], 35) := by decide +kernel
theorem dX2_nameOfKind_36 : decode cX2_nameOfKind 36 = .ok (.ldc 103, 2) := by decide +kernel
theorem dX2_nameOfKind_38 : decode cX2_nameOfKind 38 = .ok (.areturn, 1) := by decide +kernel
theorem dX2_nameOfKind_39 : decode cX2_nameOfKind 39 = .ok (.ldc 105, 2) := by decide +kernel
theorem dX2_nameOfKind_41 : decode cX2_nameOfKind 41 = .ok (.areturn, 1) := by decide +kernel
theorem dX2_nameOfKind_42 : decode cX2_nameOfKind 42 = .ok (.ldc 107, 2) := by decide +kernel
theorem dX2_nameOfKind_44 : decode cX2_nameOfKind 44 = .ok (.areturn, 1) := by decide +kernel
theorem dX2_nameOfKind_45 : decode cX2_nameOfKind 45 = .ok (.ldc 109, 2) := by decide +kernel
theorem dX2_nameOfKind_47 : decode cX2_nameOfKind 47 = .ok (.areturn, 1) := by decide +kernel
theorem dX2_nameOfKind_48 : decode cX2_nameOfKind 48 = .ok (.ldc 111, 2) := by decide +kernel
theorem dX2_nameOfKind_50 : decode cX2_nameOfKind 50 = .ok (.areturn, 1) := by decide +kernel
theorem dX2_nameOfKind_51 : decode cX2_nameOfKind 51 = .ok (.ldc 113, 2) := by decide +kernel
theorem dX2_nameOfKind_53 : decode cX2_nameOfKind 53 = .ok (.areturn, 1) := by decide +kernel
theorem dX2_nameOfCue_0 : decode cX2_nameOfCue 0 = .ok (.iload_n 0, 1) := by decide +kernel
theorem dX2_nameOfCue_1 : decode cX2_nameOfCue 1 = .ok (.tableswitch 43 1 4 #[31, 34, 37, 40], 31) := by decide +kernel
theorem dX2_nameOfCue_32 : decode cX2_nameOfCue 32 = .ok (.ldc 115, 2) := by decide +kernel
theorem dX2_nameOfCue_34 : decode cX2_nameOfCue 34 = .ok (.areturn, 1) := by decide +kernel
theorem dX2_nameOfCue_35 : decode cX2_nameOfCue 35 = .ok (.ldc 117, 2) := by decide +kernel
theorem dX2_nameOfCue_37 : decode cX2_nameOfCue 37 = .ok (.areturn, 1) := by decide +kernel
theorem dX2_nameOfCue_38 : decode cX2_nameOfCue 38 = .ok (.ldc 119, 2) := by decide +kernel
theorem dX2_nameOfCue_40 : decode cX2_nameOfCue 40 = .ok (.areturn, 1) := by decide +kernel
theorem dX2_nameOfCue_41 : decode cX2_nameOfCue 41 = .ok (.ldc 121, 2) := by decide +kernel
theorem dX2_nameOfCue_43 : decode cX2_nameOfCue 43 = .ok (.areturn, 1) := by decide +kernel
theorem dX2_nameOfCue_44 : decode cX2_nameOfCue 44 = .ok (.ldc 123, 2) := by decide +kernel
theorem dX2_nameOfCue_46 : decode cX2_nameOfCue 46 = .ok (.areturn, 1) := by decide +kernel
theorem dX2_isNumberTo_0 : decode cX2_isNumberTo 0 = .ok (.aload_n 0, 1) := by decide +kernel
theorem dX2_isNumberTo_1 : decode cX2_isNumberTo 1 = .ok (.getfield 25, 3) := by decide +kernel
theorem dX2_isNumberTo_4 : decode cX2_isNumberTo 4 = .ok (.iconst 2, 1) := by decide +kernel
theorem dX2_isNumberTo_5 : decode cX2_isNumberTo 5 = .ok (.if_icmp .ne 15, 3) := by decide +kernel
theorem dX2_isNumberTo_8 : decode cX2_isNumberTo 8 = .ok (.aload_n 0, 1) := by decide +kernel
theorem dX2_isNumberTo_9 : decode cX2_isNumberTo 9 = .ok (.getfield 28, 3) := by decide +kernel
theorem dX2_isNumberTo_12 : decode cX2_isNumberTo 12 = .ok (.iload_n 1, 1) := by decide +kernel
theorem dX2_isNumberTo_13 : decode cX2_isNumberTo 13 = .ok (.if_icmp .gt 7, 3) := by decide +kernel
theorem dX2_isNumberTo_16 : decode cX2_isNumberTo 16 = .ok (.iconst 1, 1) := by decide +kernel
theorem dX2_isNumberTo_17 : decode cX2_isNumberTo 17 = .ok (.goto 4, 3) := by decide +kernel
theorem dX2_isNumberTo_20 : decode cX2_isNumberTo 20 = .ok (.iconst 0, 1) := by decide +kernel
theorem dX2_isNumberTo_21 : decode cX2_isNumberTo 21 = .ok (.ireturn, 1) := by decide +kernel
set_option maxRecDepth 20000 in
theorem ggX2_isWord_J0_length_8abf5 : GoodIn wsX2_isWord wsJ0_length_8abf5 := goodIn_r _ [9, 10, 11, 12, 13, 8, 14, 15, 16] (by decide +kernel) (by decide +kernel)
set_option maxRecDepth 20000 in
theorem gX2_isWord_J0_length_8abf5 : GoodIn wsX2_isWord (wsV RX2 125 RJ0 yJ0_length_8abf5 wsJ0_length_8abf5) := goodIn_app (goodIn_of _ (by decide +kernel)) ggX2_isWord_J0_length_8abf5
set_option maxRecDepth 20000 in
theorem ggX2_isWord_J0_charAt_5068e : GoodIn wsX2_isWord wsJ0_charAt_5068e := goodIn_r _ [20, 10, 21, 22, 23, 8, 24, 15, 16, 25, 26, 27, 28, 29, 30, 31, 32, 33, 34, 35, 36, 37, 38, 39, 40, 41, 42, 43, 44, 45, 46, 47, 48, 49, 50, 51, 52, 53] (by decide +kernel) (by decide +kernel)
set_option maxRecDepth 20000 in
theorem gX2_isWord_J0_charAt_5068e : GoodIn wsX2_isWord (wsV RX2 129 RJ0 yJ0_charAt_5068e wsJ0_charAt_5068e) := goodIn_app (goodIn_of _ (by decide +kernel)) ggX2_isWord_J0_charAt_5068e
theorem dX2_isWord_0 : decode cX2_isWord 0 = .ok (.aload_n 0, 1) := by decide +kernel
theorem dX2_isWord_1 : decode cX2_isWord 1 = .ok (.getfield 25, 3) := by decide +kernel
theorem dX2_isWord_4 : decode cX2_isWord 4 = .ok (.iconst 1, 1) := by decide +kernel
theorem dX2_isWord_5 : decode cX2_isWord 5 = .ok (.if_icmp .ne 19, 3) := by decide +kernel
theorem dX2_isWord_8 : decode cX2_isWord 8 = .ok (.aload_n 0, 1) := by decide +kernel
theorem dX2_isWord_9 : decode cX2_isWord 9 = .ok (.getfield 22, 3) := by decide +kernel
theorem dX2_isWord_12 : decode cX2_isWord 12 = .ok (.aload_n 0, 1) := by decide +kernel
theorem dX2_isWord_13 : decode cX2_isWord 13 = .ok (.getfield 19, 3) := by decide +kernel
theorem dX2_isWord_16 : decode cX2_isWord 16 = .ok (.isub, 1) := by decide +kernel
theorem dX2_isWord_17 : decode cX2_isWord 17 = .ok (.aload_n 1, 1) := by decide +kernel
theorem dX2_isWord_18 : decode cX2_isWord 18 = .ok (.invokevirtual 125, 3) := by decide +kernel
theorem dX2_isWord_21 : decode cX2_isWord 21 = .ok (.if_icmp .eq 5, 3) := by decide +kernel
theorem dX2_isWord_24 : decode cX2_isWord 24 = .ok (.iconst 0, 1) := by decide +kernel
theorem dX2_isWord_25 : decode cX2_isWord 25 = .ok (.ireturn, 1) := by decide +kernel
theorem dX2_isWord_26 : decode cX2_isWord 26 = .ok (.iconst 0, 1) := by decide +kernel
theorem dX2_isWord_27 : decode cX2_isWord 27 = .ok (.istore_n 2, 1) := by decide +kernel
theorem dX2_isWord_28 : decode cX2_isWord 28 = .ok (.iload_n 2, 1) := by decide +kernel
theorem dX2_isWord_29 : decode cX2_isWord 29 = .ok (.aload_n 1, 1) := by decide +kernel
theorem dX2_isWord_30 : decode cX2_isWord 30 = .ok (.invokevirtual 125, 3) := by decide +kernel
theorem dX2_isWord_33 : decode cX2_isWord 33 = .ok (.if_icmp .ge 30, 3) := by decide +kernel
theorem dX2_isWord_36 : decode cX2_isWord 36 = .ok (.aload_n 0, 1) := by decide +kernel
theorem dX2_isWord_37 : decode cX2_isWord 37 = .ok (.getfield 9, 3) := by decide +kernel
theorem dX2_isWord_40 : decode cX2_isWord 40 = .ok (.aload_n 0, 1) := by decide +kernel
theorem dX2_isWord_41 : decode cX2_isWord 41 = .ok (.getfield 19, 3) := by decide +kernel
theorem dX2_isWord_44 : decode cX2_isWord 44 = .ok (.iload_n 2, 1) := by decide +kernel
theorem dX2_isWord_45 : decode cX2_isWord 45 = .ok (.iadd, 1) := by decide +kernel
theorem dX2_isWord_46 : decode cX2_isWord 46 = .ok (.baload, 1) := by decide +kernel
theorem dX2_isWord_47 : decode cX2_isWord 47 = .ok (.aload_n 1, 1) := by decide +kernel
theorem dX2_isWord_48 : decode cX2_isWord 48 = .ok (.iload_n 2, 1) := by decide +kernel
theorem dX2_isWord_49 : decode cX2_isWord 49 = .ok (.invokevirtual 129, 3) := by decide +kernel
theorem dX2_isWord_52 : decode cX2_isWord 52 = .ok (.if_icmp .eq 5, 3) := by decide +kernel
theorem dX2_isWord_55 : decode cX2_isWord 55 = .ok (.iconst 0, 1) := by decide +kernel
theorem dX2_isWord_56 : decode cX2_isWord 56 = .ok (.ireturn, 1) := by decide +kernel
theorem dX2_isWord_57 : decode cX2_isWord 57 = .ok (.iinc 2 1, 3) := by decide +kernel
theorem dX2_isWord_60 : decode cX2_isWord 60 = .ok (.goto (-32), 3) := by decide +kernel
theorem dX2_isWord_63 : decode cX2_isWord 63 = .ok (.iconst 1, 1) := by decide +kernel
theorem dX2_isWord_64 : decode cX2_isWord 64 = .ok (.ireturn, 1) := by decide +kernel
set_option maxRecDepth 20000 in
theorem ggX2_take_X2_isLetter : GoodIn wsX2_take wsX2_isLetter := goodIn_r _ [9] (by decide +kernel) (by decide +kernel)
set_option maxRecDepth 20000 in
theorem gX2_take_X2_isLetter : GoodIn wsX2_take (va_wsS RX2 133 yX2_isLetter wsX2_isLetter) := goodIn_app (goodIn_of _ (by decide +kernel)) ggX2_take_X2_isLetter
set_option maxRecDepth 20000 in
theorem ggX2_take_X2_takeWord : GoodIn wsX2_take wsX2_takeWord := goodIn_r _ [13, 5, 1, 3, 4, 6, 7, 8, 9, 26, 27, 28, 29, 30, 31] (by decide +kernel) (by decide +kernel)
set_option maxRecDepth 20000 in
theorem gX2_take_X2_takeWord : GoodIn wsX2_take (wsV RX2 137 RX2 yX2_takeWord wsX2_takeWord) := goodIn_app (goodIn_of _ (by decide +kernel)) ggX2_take_X2_takeWord
set_option maxRecDepth 20000 in
theorem ggX2_take_X2_isDigit : GoodIn wsX2_take wsX2_isDigit := goodIn_r _ [16] (by decide +kernel) (by decide +kernel)
set_option maxRecDepth 20000 in
theorem gX2_take_X2_isDigit : GoodIn wsX2_take (va_wsS RX2 140 yX2_isDigit wsX2_isDigit) := goodIn_app (goodIn_of _ (by decide +kernel)) ggX2_take_X2_isDigit
set_option maxRecDepth 20000 in
theorem ggX2_take_X2_takeNumber : GoodIn wsX2_take wsX2_takeNumber := goodIn_r _ [20, 5, 21, 1, 3, 4, 22, 23, 24, 25, 14, 15, 8, 16, 26, 27, 28, 29, 30, 31] (by decide +kernel) (by decide +kernel)
set_option maxRecDepth 20000 in
theorem gX2_take_X2_takeNumber : GoodIn wsX2_take (wsV RX2 143 RX2 yX2_takeNumber wsX2_takeNumber) := goodIn_app (goodIn_of _ (by decide +kernel)) ggX2_take_X2_takeNumber
theorem dX2_take_0 : decode cX2_take 0 = .ok (.aload_n 0, 1) := by decide +kernel
theorem dX2_take_1 : decode cX2_take 1 = .ok (.aload_n 0, 1) := by decide +kernel
theorem dX2_take_2 : decode cX2_take 2 = .ok (.getfield 22, 3) := by decide +kernel
theorem dX2_take_5 : decode cX2_take 5 = .ok (.putfield 19, 3) := by decide +kernel
theorem dX2_take_8 : decode cX2_take 8 = .ok (.aload_n 0, 1) := by decide +kernel
theorem dX2_take_9 : decode cX2_take 9 = .ok (.getfield 19, 3) := by decide +kernel
theorem dX2_take_12 : decode cX2_take 12 = .ok (.aload_n 0, 1) := by decide +kernel
theorem dX2_take_13 : decode cX2_take 13 = .ok (.getfield 15, 3) := by decide +kernel
theorem dX2_take_16 : decode cX2_take 16 = .ok (.if_icmp .ge 30, 3) := by decide +kernel
theorem dX2_take_19 : decode cX2_take 19 = .ok (.aload_n 0, 1) := by decide +kernel
theorem dX2_take_20 : decode cX2_take 20 = .ok (.getfield 9, 3) := by decide +kernel
theorem dX2_take_23 : decode cX2_take 23 = .ok (.aload_n 0, 1) := by decide +kernel
theorem dX2_take_24 : decode cX2_take 24 = .ok (.getfield 19, 3) := by decide +kernel
theorem dX2_take_27 : decode cX2_take 27 = .ok (.baload, 1) := by decide +kernel
theorem dX2_take_28 : decode cX2_take 28 = .ok (.bipush 32, 2) := by decide +kernel
theorem dX2_take_30 : decode cX2_take 30 = .ok (.if_icmp .ne 16, 3) := by decide +kernel
theorem dX2_take_33 : decode cX2_take 33 = .ok (.aload_n 0, 1) := by decide +kernel
theorem dX2_take_34 : decode cX2_take 34 = .ok (.dup, 1) := by decide +kernel
theorem dX2_take_35 : decode cX2_take 35 = .ok (.getfield 19, 3) := by decide +kernel
theorem dX2_take_38 : decode cX2_take 38 = .ok (.iconst 1, 1) := by decide +kernel
theorem dX2_take_39 : decode cX2_take 39 = .ok (.iadd, 1) := by decide +kernel
theorem dX2_take_40 : decode cX2_take 40 = .ok (.putfield 19, 3) := by decide +kernel
theorem dX2_take_43 : decode cX2_take 43 = .ok (.goto (-35), 3) := by decide +kernel
theorem dX2_take_46 : decode cX2_take 46 = .ok (.aload_n 0, 1) := by decide +kernel
theorem dX2_take_47 : decode cX2_take 47 = .ok (.aload_n 0, 1) := by decide +kernel
theorem dX2_take_48 : decode cX2_take 48 = .ok (.getfield 19, 3) := by decide +kernel
theorem dX2_take_51 : decode cX2_take 51 = .ok (.putfield 22, 3) := by decide +kernel
theorem dX2_take_54 : decode cX2_take 54 = .ok (.aload_n 0, 1) := by decide +kernel
theorem dX2_take_55 : decode cX2_take 55 = .ok (.getfield 19, 3) := by decide +kernel
theorem dX2_take_58 : decode cX2_take 58 = .ok (.aload_n 0, 1) := by decide +kernel
theorem dX2_take_59 : decode cX2_take 59 = .ok (.getfield 15, 3) := by decide +kernel
theorem dX2_take_62 : decode cX2_take 62 = .ok (.if_icmp .lt 11, 3) := by decide +kernel
theorem dX2_take_65 : decode cX2_take 65 = .ok (.aload_n 0, 1) := by decide +kernel
theorem dX2_take_66 : decode cX2_take 66 = .ok (.iconst 0, 1) := by decide +kernel
theorem dX2_take_67 : decode cX2_take 67 = .ok (.putfield 25, 3) := by decide +kernel
theorem dX2_take_70 : decode cX2_take 70 = .ok (.goto 80, 3) := by decide +kernel
theorem dX2_take_73 : decode cX2_take 73 = .ok (.aload_n 0, 1) := by decide +kernel
theorem dX2_take_74 : decode cX2_take 74 = .ok (.getfield 9, 3) := by decide +kernel
theorem dX2_take_77 : decode cX2_take 77 = .ok (.aload_n 0, 1) := by decide +kernel
theorem dX2_take_78 : decode cX2_take 78 = .ok (.getfield 19, 3) := by decide +kernel
theorem dX2_take_81 : decode cX2_take 81 = .ok (.baload, 1) := by decide +kernel
theorem dX2_take_82 : decode cX2_take 82 = .ok (.invokestatic 133, 3) := by decide +kernel
theorem dX2_take_85 : decode cX2_take 85 = .ok (.ifCond .eq 10, 3) := by decide +kernel
theorem dX2_take_88 : decode cX2_take 88 = .ok (.aload_n 0, 1) := by decide +kernel
theorem dX2_take_89 : decode cX2_take 89 = .ok (.invokevirtual 137, 3) := by decide +kernel
theorem dX2_take_92 : decode cX2_take 92 = .ok (.goto 58, 3) := by decide +kernel
theorem dX2_take_95 : decode cX2_take 95 = .ok (.aload_n 0, 1) := by decide +kernel
theorem dX2_take_96 : decode cX2_take 96 = .ok (.getfield 9, 3) := by decide +kernel
theorem dX2_take_99 : decode cX2_take 99 = .ok (.aload_n 0, 1) := by decide +kernel
theorem dX2_take_100 : decode cX2_take 100 = .ok (.getfield 19, 3) := by decide +kernel
theorem dX2_take_103 : decode cX2_take 103 = .ok (.baload, 1) := by decide +kernel
theorem dX2_take_104 : decode cX2_take 104 = .ok (.invokestatic 140, 3) := by decide +kernel
theorem dX2_take_107 : decode cX2_take 107 = .ok (.ifCond .eq 10, 3) := by decide +kernel
theorem dX2_take_110 : decode cX2_take 110 = .ok (.aload_n 0, 1) := by decide +kernel
theorem dX2_take_111 : decode cX2_take 111 = .ok (.invokevirtual 143, 3) := by decide +kernel
theorem dX2_take_114 : decode cX2_take 114 = .ok (.goto 36, 3) := by decide +kernel
theorem dX2_take_117 : decode cX2_take 117 = .ok (.aload_n 0, 1) := by decide +kernel
theorem dX2_take_118 : decode cX2_take 118 = .ok (.aload_n 0, 1) := by decide +kernel
theorem dX2_take_119 : decode cX2_take 119 = .ok (.getfield 9, 3) := by decide +kernel
theorem dX2_take_122 : decode cX2_take 122 = .ok (.aload_n 0, 1) := by decide +kernel
theorem dX2_take_123 : decode cX2_take 123 = .ok (.getfield 19, 3) := by decide +kernel
theorem dX2_take_126 : decode cX2_take 126 = .ok (.baload, 1) := by decide +kernel
theorem dX2_take_127 : decode cX2_take 127 = .ok (.bipush 59, 2) := by decide +kernel
theorem dX2_take_129 : decode cX2_take 129 = .ok (.if_icmp .ne 7, 3) := by decide +kernel
theorem dX2_take_132 : decode cX2_take 132 = .ok (.iconst 3, 1) := by decide +kernel
theorem dX2_take_133 : decode cX2_take 133 = .ok (.goto 4, 3) := by decide +kernel
theorem dX2_take_136 : decode cX2_take 136 = .ok (.iconst 4, 1) := by decide +kernel
theorem dX2_take_137 : decode cX2_take 137 = .ok (.putfield 25, 3) := by decide +kernel
theorem dX2_take_140 : decode cX2_take 140 = .ok (.aload_n 0, 1) := by decide +kernel
theorem dX2_take_141 : decode cX2_take 141 = .ok (.dup, 1) := by decide +kernel
theorem dX2_take_142 : decode cX2_take 142 = .ok (.getfield 22, 3) := by decide +kernel
theorem dX2_take_145 : decode cX2_take 145 = .ok (.iconst 1, 1) := by decide +kernel
theorem dX2_take_146 : decode cX2_take 146 = .ok (.iadd, 1) := by decide +kernel
theorem dX2_take_147 : decode cX2_take 147 = .ok (.putfield 22, 3) := by decide +kernel
theorem dX2_take_150 : decode cX2_take 150 = .ok (.return_, 1) := by decide +kernel
set_option maxRecDepth 20000 in
theorem ggX2_takeWord_X2_isLetter : GoodIn wsX2_takeWord wsX2_isLetter := goodIn_r _ [8] (by decide +kernel) (by decide +kernel)
set_option maxRecDepth 20000 in
theorem gX2_takeWord_X2_isLetter : GoodIn wsX2_takeWord (va_wsS RX2 133 yX2_isLetter wsX2_isLetter) := goodIn_app (goodIn_of _ (by decide +kernel)) ggX2_takeWord_X2_isLetter
theorem dX2_takeWord_0 : decode cX2_takeWord 0 = .ok (.aload_n 0, 1) := by decide +kernel
theorem dX2_takeWord_1 : decode cX2_takeWord 1 = .ok (.iconst 1, 1) := by decide +kernel
theorem dX2_takeWord_2 : decode cX2_takeWord 2 = .ok (.putfield 25, 3) := by decide +kernel
theorem dX2_takeWord_5 : decode cX2_takeWord 5 = .ok (.aload_n 0, 1) := by decide +kernel
theorem dX2_takeWord_6 : decode cX2_takeWord 6 = .ok (.getfield 22, 3) := by decide +kernel
theorem dX2_takeWord_9 : decode cX2_takeWord 9 = .ok (.aload_n 0, 1) := by decide +kernel
theorem dX2_takeWord_10 : decode cX2_takeWord 10 = .ok (.getfield 15, 3) := by decide +kernel
theorem dX2_takeWord_13 : decode cX2_takeWord 13 = .ok (.if_icmp .ge 31, 3) := by decide +kernel
theorem dX2_takeWord_16 : decode cX2_takeWord 16 = .ok (.aload_n 0, 1) := by decide +kernel
theorem dX2_takeWord_17 : decode cX2_takeWord 17 = .ok (.getfield 9, 3) := by decide +kernel
theorem dX2_takeWord_20 : decode cX2_takeWord 20 = .ok (.aload_n 0, 1) := by decide +kernel
theorem dX2_takeWord_21 : decode cX2_takeWord 21 = .ok (.getfield 22, 3) := by decide +kernel
theorem dX2_takeWord_24 : decode cX2_takeWord 24 = .ok (.baload, 1) := by decide +kernel
theorem dX2_takeWord_25 : decode cX2_takeWord 25 = .ok (.invokestatic 133, 3) := by decide +kernel
theorem dX2_takeWord_28 : decode cX2_takeWord 28 = .ok (.ifCond .eq 16, 3) := by decide +kernel
theorem dX2_takeWord_31 : decode cX2_takeWord 31 = .ok (.aload_n 0, 1) := by decide +kernel
theorem dX2_takeWord_32 : decode cX2_takeWord 32 = .ok (.dup, 1) := by decide +kernel
theorem dX2_takeWord_33 : decode cX2_takeWord 33 = .ok (.getfield 22, 3) := by decide +kernel
theorem dX2_takeWord_36 : decode cX2_takeWord 36 = .ok (.iconst 1, 1) := by decide +kernel
theorem dX2_takeWord_37 : decode cX2_takeWord 37 = .ok (.iadd, 1) := by decide +kernel
theorem dX2_takeWord_38 : decode cX2_takeWord 38 = .ok (.putfield 22, 3) := by decide +kernel
theorem dX2_takeWord_41 : decode cX2_takeWord 41 = .ok (.goto (-36), 3) := by decide +kernel
theorem dX2_takeWord_44 : decode cX2_takeWord 44 = .ok (.return_, 1) := by decide +kernel
set_option maxRecDepth 20000 in
theorem ggX2_takeNumber_X2_isDigit : GoodIn wsX2_takeNumber wsX2_isDigit := goodIn_r _ [13] (by decide +kernel) (by decide +kernel)
set_option maxRecDepth 20000 in
theorem gX2_takeNumber_X2_isDigit : GoodIn wsX2_takeNumber (va_wsS RX2 140 yX2_isDigit wsX2_isDigit) := goodIn_app (goodIn_of _ (by decide +kernel)) ggX2_takeNumber_X2_isDigit
theorem dX2_takeNumber_0 : decode cX2_takeNumber 0 = .ok (.aload_n 0, 1) := by decide +kernel
theorem dX2_takeNumber_1 : decode cX2_takeNumber 1 = .ok (.iconst 2, 1) := by decide +kernel
theorem dX2_takeNumber_2 : decode cX2_takeNumber 2 = .ok (.putfield 25, 3) := by decide +kernel
theorem dX2_takeNumber_5 : decode cX2_takeNumber 5 = .ok (.aload_n 0, 1) := by decide +kernel
theorem dX2_takeNumber_6 : decode cX2_takeNumber 6 = .ok (.iconst 0, 1) := by decide +kernel
theorem dX2_takeNumber_7 : decode cX2_takeNumber 7 = .ok (.putfield 28, 3) := by decide +kernel
theorem dX2_takeNumber_10 : decode cX2_takeNumber 10 = .ok (.aload_n 0, 1) := by decide +kernel
theorem dX2_takeNumber_11 : decode cX2_takeNumber 11 = .ok (.getfield 22, 3) := by decide +kernel
theorem dX2_takeNumber_14 : decode cX2_takeNumber 14 = .ok (.aload_n 0, 1) := by decide +kernel
theorem dX2_takeNumber_15 : decode cX2_takeNumber 15 = .ok (.getfield 15, 3) := by decide +kernel
theorem dX2_takeNumber_18 : decode cX2_takeNumber 18 = .ok (.if_icmp .ge 61, 3) := by decide +kernel
theorem dX2_takeNumber_21 : decode cX2_takeNumber 21 = .ok (.aload_n 0, 1) := by decide +kernel
theorem dX2_takeNumber_22 : decode cX2_takeNumber 22 = .ok (.getfield 9, 3) := by decide +kernel
theorem dX2_takeNumber_25 : decode cX2_takeNumber 25 = .ok (.aload_n 0, 1) := by decide +kernel
theorem dX2_takeNumber_26 : decode cX2_takeNumber 26 = .ok (.getfield 22, 3) := by decide +kernel
theorem dX2_takeNumber_29 : decode cX2_takeNumber 29 = .ok (.baload, 1) := by decide +kernel
theorem dX2_takeNumber_30 : decode cX2_takeNumber 30 = .ok (.invokestatic 140, 3) := by decide +kernel
theorem dX2_takeNumber_33 : decode cX2_takeNumber 33 = .ok (.ifCond .eq 46, 3) := by decide +kernel
theorem dX2_takeNumber_36 : decode cX2_takeNumber 36 = .ok (.aload_n 0, 1) := by decide +kernel
theorem dX2_takeNumber_37 : decode cX2_takeNumber 37 = .ok (.sipush 1000, 3) := by decide +kernel
theorem dX2_takeNumber_40 : decode cX2_takeNumber 40 = .ok (.aload_n 0, 1) := by decide +kernel
theorem dX2_takeNumber_41 : decode cX2_takeNumber 41 = .ok (.getfield 28, 3) := by decide +kernel
theorem dX2_takeNumber_44 : decode cX2_takeNumber 44 = .ok (.bipush 10, 2) := by decide +kernel
theorem dX2_takeNumber_46 : decode cX2_takeNumber 46 = .ok (.imul, 1) := by decide +kernel
theorem dX2_takeNumber_47 : decode cX2_takeNumber 47 = .ok (.aload_n 0, 1) := by decide +kernel
theorem dX2_takeNumber_48 : decode cX2_takeNumber 48 = .ok (.getfield 9, 3) := by decide +kernel
theorem dX2_takeNumber_51 : decode cX2_takeNumber 51 = .ok (.aload_n 0, 1) := by decide +kernel
theorem dX2_takeNumber_52 : decode cX2_takeNumber 52 = .ok (.getfield 22, 3) := by decide +kernel
theorem dX2_takeNumber_55 : decode cX2_takeNumber 55 = .ok (.baload, 1) := by decide +kernel
theorem dX2_takeNumber_56 : decode cX2_takeNumber 56 = .ok (.bipush 48, 2) := by decide +kernel
theorem dX2_takeNumber_58 : decode cX2_takeNumber 58 = .ok (.isub, 1) := by decide +kernel
theorem dX2_takeNumber_59 : decode cX2_takeNumber 59 = .ok (.iadd, 1) := by decide +kernel
theorem dX2_takeNumber_60 : decode cX2_takeNumber 60 = .ok (.invokestatic 146, 3) := by decide +kernel
theorem dX2_takeNumber_63 : decode cX2_takeNumber 63 = .ok (.putfield 28, 3) := by decide +kernel
theorem dX2_takeNumber_66 : decode cX2_takeNumber 66 = .ok (.aload_n 0, 1) := by decide +kernel
theorem dX2_takeNumber_67 : decode cX2_takeNumber 67 = .ok (.dup, 1) := by decide +kernel
theorem dX2_takeNumber_68 : decode cX2_takeNumber 68 = .ok (.getfield 22, 3) := by decide +kernel
theorem dX2_takeNumber_71 : decode cX2_takeNumber 71 = .ok (.iconst 1, 1) := by decide +kernel
theorem dX2_takeNumber_72 : decode cX2_takeNumber 72 = .ok (.iadd, 1) := by decide +kernel
theorem dX2_takeNumber_73 : decode cX2_takeNumber 73 = .ok (.putfield 22, 3) := by decide +kernel
theorem dX2_takeNumber_76 : decode cX2_takeNumber 76 = .ok (.goto (-66), 3) := by decide +kernel
theorem dX2_takeNumber_79 : decode cX2_takeNumber 79 = .ok (.return_, 1) := by decide +kernel
theorem dX2_isLetter_0 : decode cX2_isLetter 0 = .ok (.iload_n 0, 1) := by decide +kernel
theorem dX2_isLetter_1 : decode cX2_isLetter 1 = .ok (.bipush 97, 2) := by decide +kernel
theorem dX2_isLetter_3 : decode cX2_isLetter 3 = .ok (.if_icmp .lt 13, 3) := by decide +kernel
theorem dX2_isLetter_6 : decode cX2_isLetter 6 = .ok (.iload_n 0, 1) := by decide +kernel
theorem dX2_isLetter_7 : decode cX2_isLetter 7 = .ok (.bipush 122, 2) := by decide +kernel
theorem dX2_isLetter_9 : decode cX2_isLetter 9 = .ok (.if_icmp .gt 7, 3) := by decide +kernel
theorem dX2_isLetter_12 : decode cX2_isLetter 12 = .ok (.iconst 1, 1) := by decide +kernel
theorem dX2_isLetter_13 : decode cX2_isLetter 13 = .ok (.goto 4, 3) := by decide +kernel
theorem dX2_isLetter_16 : decode cX2_isLetter 16 = .ok (.iconst 0, 1) := by decide +kernel
theorem dX2_isLetter_17 : decode cX2_isLetter 17 = .ok (.ireturn, 1) := by decide +kernel
theorem dX2_isDigit_0 : decode cX2_isDigit 0 = .ok (.iload_n 0, 1) := by decide +kernel
theorem dX2_isDigit_1 : decode cX2_isDigit 1 = .ok (.bipush 48, 2) := by decide +kernel
theorem dX2_isDigit_3 : decode cX2_isDigit 3 = .ok (.if_icmp .lt 13, 3) := by decide +kernel
theorem dX2_isDigit_6 : decode cX2_isDigit 6 = .ok (.iload_n 0, 1) := by decide +kernel
theorem dX2_isDigit_7 : decode cX2_isDigit 7 = .ok (.bipush 57, 2) := by decide +kernel
theorem dX2_isDigit_9 : decode cX2_isDigit 9 = .ok (.if_icmp .gt 7, 3) := by decide +kernel
theorem dX2_isDigit_12 : decode cX2_isDigit 12 = .ok (.iconst 1, 1) := by decide +kernel
theorem dX2_isDigit_13 : decode cX2_isDigit 13 = .ok (.goto 4, 3) := by decide +kernel
theorem dX2_isDigit_16 : decode cX2_isDigit 16 = .ok (.iconst 0, 1) := by decide +kernel
theorem dX2_isDigit_17 : decode cX2_isDigit 17 = .ok (.ireturn, 1) := by decide +kernel
set_option maxRecDepth 20000 in
theorem ggX3_init_X0_init : GoodIn wsX3_init wsX0_init := goodIn_r _ [22, 23, 2, 3, 24, 25, 26, 17, 27, 28, 29, 30, 31, 32, 33, 51, 52, 53, 54, 55, 56, 57, 58, 59, 60] (by decide +kernel) (by decide +kernel)
set_option maxRecDepth 20000 in
theorem gX3_init_X0_init_n11 : GoodIn wsX3_init (wsX0_init) := ggX3_init_X0_init
set_option maxRecDepth 20000 in
theorem ggX3_init_X2_init : GoodIn wsX3_init wsX2_init := goodIn_r _ [35, 36, 2, 3, 37, 38, 39, 40, 41, 42, 43, 68, 69, 70, 71, 72, 73] (by decide +kernel) (by decide +kernel)
set_option maxRecDepth 20000 in
theorem gX3_init_X2_init_n28 : GoodIn wsX3_init (wsX2_init) := ggX3_init_X2_init
set_option maxRecDepth 20000 in
theorem ggX3_init_X1_init : GoodIn wsX3_init wsX1_init := goodIn_r _ [45, 46, 2, 3, 47, 48, 49, 50, 74, 75, 76] (by decide +kernel) (by decide +kernel)
set_option maxRecDepth 20000 in
theorem gX3_init_X1_init_n43 : GoodIn wsX3_init (wsX1_init) := ggX3_init_X1_init
theorem dX3_init_0 : decode cX3_init 0 = .ok (.aload_n 0, 1) := by decide +kernel
theorem dX3_init_1 : decode cX3_init 1 = .ok (.invokespecial 3, 3) := by decide +kernel
theorem dX3_init_4 : decode cX3_init 4 = .ok (.aload_n 0, 1) := by decide +kernel
theorem dX3_init_5 : decode cX3_init 5 = .ok (.new 9, 3) := by decide +kernel
theorem dX3_init_8 : decode cX3_init 8 = .ok (.dup, 1) := by decide +kernel
theorem dX3_init_9 : decode cX3_init 9 = .ok (.invokespecial 11, 3) := by decide +kernel
theorem dX3_init_12 : decode cX3_init 12 = .ok (.putfield 12, 3) := by decide +kernel
theorem dX3_init_15 : decode cX3_init 15 = .ok (.aload_n 0, 1) := by decide +kernel
theorem dX3_init_16 : decode cX3_init 16 = .ok (.new 9, 3) := by decide +kernel
theorem dX3_init_19 : decode cX3_init 19 = .ok (.dup, 1) := by decide +kernel
theorem dX3_init_20 : decode cX3_init 20 = .ok (.invokespecial 11, 3) := by decide +kernel
theorem dX3_init_23 : decode cX3_init 23 = .ok (.putfield 16, 3) := by decide +kernel
theorem dX3_init_26 : decode cX3_init 26 = .ok (.aload_n 0, 1) := by decide +kernel
theorem dX3_init_27 : decode cX3_init 27 = .ok (.new 9, 3) := by decide +kernel
theorem dX3_init_30 : decode cX3_init 30 = .ok (.dup, 1) := by decide +kernel
theorem dX3_init_31 : decode cX3_init 31 = .ok (.invokespecial 11, 3) := by decide +kernel
theorem dX3_init_34 : decode cX3_init 34 = .ok (.putfield 19, 3) := by decide +kernel
theorem dX3_init_37 : decode cX3_init 37 = .ok (.aload_n 0, 1) := by decide +kernel
theorem dX3_init_38 : decode cX3_init 38 = .ok (.iconst 0, 1) := by decide +kernel
theorem dX3_init_39 : decode cX3_init 39 = .ok (.putfield 22, 3) := by decide +kernel
theorem dX3_init_42 : decode cX3_init 42 = .ok (.aload_n 0, 1) := by decide +kernel
theorem dX3_init_43 : decode cX3_init 43 = .ok (.new 26, 3) := by decide +kernel
theorem dX3_init_46 : decode cX3_init 46 = .ok (.dup, 1) := by decide +kernel
theorem dX3_init_47 : decode cX3_init 47 = .ok (.invokespecial 28, 3) := by decide +kernel
theorem dX3_init_50 : decode cX3_init 50 = .ok (.putfield 29, 3) := by decide +kernel
theorem dX3_init_53 : decode cX3_init 53 = .ok (.aload_n 0, 1) := by decide +kernel
theorem dX3_init_54 : decode cX3_init 54 = .ok (.iconst 4, 1) := by decide +kernel
theorem dX3_init_55 : decode cX3_init 55 = .ok (.anewarray 33, 3) := by decide +kernel
theorem dX3_init_58 : decode cX3_init 58 = .ok (.putfield 35, 3) := by decide +kernel
theorem dX3_init_61 : decode cX3_init 61 = .ok (.aload_n 0, 1) := by decide +kernel
theorem dX3_init_62 : decode cX3_init 62 = .ok (.bipush 7, 2) := by decide +kernel
theorem dX3_init_64 : decode cX3_init 64 = .ok (.newarray .int, 2) := by decide +kernel
theorem dX3_init_66 : decode cX3_init 66 = .ok (.putfield 39, 3) := by decide +kernel
theorem dX3_init_69 : decode cX3_init 69 = .ok (.iconst 0, 1) := by decide +kernel
theorem dX3_init_70 : decode cX3_init 70 = .ok (.istore_n 1, 1) := by decide +kernel
theorem dX3_init_71 : decode cX3_init 71 = .ok (.iload_n 1, 1) := by decide +kernel
theorem dX3_init_72 : decode cX3_init 72 = .ok (.iconst 4, 1) := by decide +kernel
theorem dX3_init_73 : decode cX3_init 73 = .ok (.if_icmp .ge 22, 3) := by decide +kernel
theorem dX3_init_76 : decode cX3_init 76 = .ok (.aload_n 0, 1) := by decide +kernel
theorem dX3_init_77 : decode cX3_init 77 = .ok (.getfield 35, 3) := by decide +kernel
theorem dX3_init_80 : decode cX3_init 80 = .ok (.iload_n 1, 1) := by decide +kernel
theorem dX3_init_81 : decode cX3_init 81 = .ok (.new 33, 3) := by decide +kernel
theorem dX3_init_84 : decode cX3_init 84 = .ok (.dup, 1) := by decide +kernel
theorem dX3_init_85 : decode cX3_init 85 = .ok (.invokespecial 43, 3) := by decide +kernel
theorem dX3_init_88 : decode cX3_init 88 = .ok (.aastore, 1) := by decide +kernel
theorem dX3_init_89 : decode cX3_init 89 = .ok (.iinc 1 1, 3) := by decide +kernel
theorem dX3_init_92 : decode cX3_init 92 = .ok (.goto (-21), 3) := by decide +kernel
theorem dX3_init_95 : decode cX3_init 95 = .ok (.return_, 1) := by decide +kernel
set_option maxRecDepth 20000 in
theorem ggX3_play_X3_isIn : GoodIn wsX3_play wsX3_isIn := goodIn_r _ [6] (by decide +kernel) (by decide +kernel)
set_option maxRecDepth 20000 in
theorem gX3_play_X3_isIn : GoodIn wsX3_play (va_wsS RX3 44 yX3_isIn wsX3_isIn) := goodIn_app (goodIn_of _ (by decide +kernel)) ggX3_play_X3_isIn
set_option maxRecDepth 20000 in
theorem ggX3_play_X3_finding : GoodIn wsX3_play wsX3_finding := goodIn_r _ [10, 1, 11, 12, 13, 14, 15, 16, 17, 18] (by decide +kernel) (by decide +kernel)
set_option maxRecDepth 20000 in
theorem gX3_play_X3_finding : GoodIn wsX3_play (wsV RX3 49 RX3 yX3_finding wsX3_finding) := goodIn_app (goodIn_of _ (by decide +kernel)) ggX3_play_X3_finding
theorem dX3_play_0 : decode cX3_play 0 = .ok (.iload_n 1, 1) := by decide +kernel
theorem dX3_play_1 : decode cX3_play 1 = .ok (.iconst 0, 1) := by decide +kernel
theorem dX3_play_2 : decode cX3_play 2 = .ok (.bipush 15, 2) := by decide +kernel
theorem dX3_play_4 : decode cX3_play 4 = .ok (.invokestatic 44, 3) := by decide +kernel
theorem dX3_play_7 : decode cX3_play 7 = .ok (.ifCond .ne 10, 3) := by decide +kernel
theorem dX3_play_10 : decode cX3_play 10 = .ok (.aload_n 0, 1) := by decide +kernel
theorem dX3_play_11 : decode cX3_play 11 = .ok (.ldc 48, 2) := by decide +kernel
theorem dX3_play_13 : decode cX3_play 13 = .ok (.invokevirtual 49, 3) := by decide +kernel
theorem dX3_play_16 : decode cX3_play 16 = .ok (.ireturn, 1) := by decide +kernel
theorem dX3_play_17 : decode cX3_play 17 = .ok (.iload_n 2, 1) := by decide +kernel
theorem dX3_play_18 : decode cX3_play 18 = .ok (.ifCond .ne 36, 3) := by decide +kernel
theorem dX3_play_21 : decode cX3_play 21 = .ok (.iload_n 3, 1) := by decide +kernel
theorem dX3_play_22 : decode cX3_play 22 = .ok (.iconst 0, 1) := by decide +kernel
theorem dX3_play_23 : decode cX3_play 23 = .ok (.iconst 4, 1) := by decide +kernel
theorem dX3_play_24 : decode cX3_play 24 = .ok (.invokestatic 44, 3) := by decide +kernel
theorem dX3_play_27 : decode cX3_play 27 = .ok (.ifCond .eq 27, 3) := by decide +kernel
theorem dX3_play_30 : decode cX3_play 30 = .ok (.aload_n 0, 1) := by decide +kernel
theorem dX3_play_31 : decode cX3_play 31 = .ok (.getfield 12, 3) := by decide +kernel
theorem dX3_play_34 : decode cX3_play 34 = .ok (.getfield 53, 3) := by decide +kernel
theorem dX3_play_37 : decode cX3_play 37 = .ok (.iload_n 1, 1) := by decide +kernel
theorem dX3_play_38 : decode cX3_play 38 = .ok (.iaload, 1) := by decide +kernel
theorem dX3_play_39 : decode cX3_play 39 = .ok (.istore 4, 2) := by decide +kernel
theorem dX3_play_41 : decode cX3_play 41 = .ok (.aload_n 0, 1) := by decide +kernel
theorem dX3_play_42 : decode cX3_play 42 = .ok (.getfield 12, 3) := by decide +kernel
theorem dX3_play_45 : decode cX3_play 45 = .ok (.getfield 53, 3) := by decide +kernel
theorem dX3_play_48 : decode cX3_play 48 = .ok (.iload_n 1, 1) := by decide +kernel
theorem dX3_play_49 : decode cX3_play 49 = .ok (.iload_n 3, 1) := by decide +kernel
theorem dX3_play_50 : decode cX3_play 50 = .ok (.iastore, 1) := by decide +kernel
theorem dX3_play_51 : decode cX3_play 51 = .ok (.iload 4, 2) := by decide +kernel
theorem dX3_play_53 : decode cX3_play 53 = .ok (.ireturn, 1) := by decide +kernel
theorem dX3_play_54 : decode cX3_play 54 = .ok (.iload_n 2, 1) := by decide +kernel
theorem dX3_play_55 : decode cX3_play 55 = .ok (.iconst 1, 1) := by decide +kernel
theorem dX3_play_56 : decode cX3_play 56 = .ok (.if_icmp .ne 37, 3) := by decide +kernel
theorem dX3_play_59 : decode cX3_play 59 = .ok (.iload_n 3, 1) := by decide +kernel
theorem dX3_play_60 : decode cX3_play 60 = .ok (.iconst 0, 1) := by decide +kernel
theorem dX3_play_61 : decode cX3_play 61 = .ok (.bipush 20, 2) := by decide +kernel
theorem dX3_play_63 : decode cX3_play 63 = .ok (.invokestatic 44, 3) := by decide +kernel
theorem dX3_play_66 : decode cX3_play 66 = .ok (.ifCond .eq 27, 3) := by decide +kernel
theorem dX3_play_69 : decode cX3_play 69 = .ok (.aload_n 0, 1) := by decide +kernel
theorem dX3_play_70 : decode cX3_play 70 = .ok (.getfield 12, 3) := by decide +kernel
theorem dX3_play_73 : decode cX3_play 73 = .ok (.getfield 56, 3) := by decide +kernel
theorem dX3_play_76 : decode cX3_play 76 = .ok (.iload_n 1, 1) := by decide +kernel
theorem dX3_play_77 : decode cX3_play 77 = .ok (.iaload, 1) := by decide +kernel
theorem dX3_play_78 : decode cX3_play 78 = .ok (.istore 4, 2) := by decide +kernel
theorem dX3_play_80 : decode cX3_play 80 = .ok (.aload_n 0, 1) := by decide +kernel
theorem dX3_play_81 : decode cX3_play 81 = .ok (.getfield 12, 3) := by decide +kernel
theorem dX3_play_84 : decode cX3_play 84 = .ok (.getfield 56, 3) := by decide +kernel
theorem dX3_play_87 : decode cX3_play 87 = .ok (.iload_n 1, 1) := by decide +kernel
theorem dX3_play_88 : decode cX3_play 88 = .ok (.iload_n 3, 1) := by decide +kernel
theorem dX3_play_89 : decode cX3_play 89 = .ok (.iastore, 1) := by decide +kernel
theorem dX3_play_90 : decode cX3_play 90 = .ok (.iload 4, 2) := by decide +kernel
theorem dX3_play_92 : decode cX3_play 92 = .ok (.ireturn, 1) := by decide +kernel
theorem dX3_play_93 : decode cX3_play 93 = .ok (.aload_n 0, 1) := by decide +kernel
theorem dX3_play_94 : decode cX3_play 94 = .ok (.ldc 48, 2) := by decide +kernel
theorem dX3_play_96 : decode cX3_play 96 = .ok (.invokevirtual 49, 3) := by decide +kernel
theorem dX3_play_99 : decode cX3_play 99 = .ok (.ireturn, 1) := by decide +kernel
set_option maxRecDepth 20000 in
theorem ggX3_now_X0_allNotes : GoodIn wsX3_now wsX0_allNotes := goodIn_r _ [6, 7, 8, 9, 10, 4, 11, 57, 58, 59, 60, 61, 62, 63, 64, 65, 66] (by decide +kernel) (by decide +kernel)
set_option maxRecDepth 20000 in
theorem gX3_now_X0_allNotes_n66 : GoodIn wsX3_now (wsX0_allNotes) := ggX3_now_X0_allNotes
set_option maxRecDepth 20000 in
theorem ggX3_now_X0_whoDoAsAsked : GoodIn wsX3_now wsX0_whoDoAsAsked := goodIn_r _ [14, 8, 15, 16, 17, 18, 19, 4, 20, 21, 22, 23, 24, 25, 26, 27, 28, 29, 30, 31, 32, 33, 34, 35, 36, 37, 38, 39, 40, 57, 58, 59, 60, 61, 62, 63, 64, 65, 66] (by decide +kernel) (by decide +kernel)
set_option maxRecDepth 20000 in
theorem gX3_now_X0_whoDoAsAsked_n70 : GoodIn wsX3_now (wsX0_whoDoAsAsked) := ggX3_now_X0_whoDoAsAsked
set_option maxRecDepth 20000 in
theorem ggX3_now_X0_allFresh : GoodIn wsX3_now wsX0_allFresh := goodIn_r _ [43, 35, 8, 9, 10, 4, 11, 57, 58, 59, 60, 61, 62, 63, 64, 65, 66] (by decide +kernel) (by decide +kernel)
set_option maxRecDepth 20000 in
theorem gX3_now_X0_allFresh_n73 : GoodIn wsX3_now (wsX0_allFresh) := ggX3_now_X0_allFresh
set_option maxRecDepth 20000 in
theorem ggX3_now_X3_finding : GoodIn wsX3_now wsX3_finding := goodIn_r _ [48, 2, 49, 50, 51, 52, 53, 54, 55, 56] (by decide +kernel) (by decide +kernel)
set_option maxRecDepth 20000 in
theorem gX3_now_X3_finding : GoodIn wsX3_now (wsV RX3 49 RX3 yX3_finding wsX3_finding) := goodIn_app (goodIn_of _ (by decide +kernel)) ggX3_now_X3_finding
theorem dX3_now_0 : decode cX3_now 0 = .ok (.iload_n 1, 1) := by decide +kernel
theorem dX3_now_1 : decode cX3_now 1 = .ok (.tableswitch 119 0 6 #[43, 51, 59, 75, 91, 103, 111], 43) := by decide +kernel
theorem dX3_now_44 : decode cX3_now 44 = .ok (.aload_n 0, 1) := by decide +kernel
theorem dX3_now_45 : decode cX3_now 45 = .ok (.getfield 12, 3) := by decide +kernel
theorem dX3_now_48 : decode cX3_now 48 = .ok (.getfield 59, 3) := by decide +kernel
theorem dX3_now_51 : decode cX3_now 51 = .ok (.ireturn, 1) := by decide +kernel
theorem dX3_now_52 : decode cX3_now 52 = .ok (.aload_n 0, 1) := by decide +kernel
theorem dX3_now_53 : decode cX3_now 53 = .ok (.getfield 12, 3) := by decide +kernel
theorem dX3_now_56 : decode cX3_now 56 = .ok (.getfield 63, 3) := by decide +kernel
theorem dX3_now_59 : decode cX3_now 59 = .ok (.ireturn, 1) := by decide +kernel
theorem dX3_now_60 : decode cX3_now 60 = .ok (.aload_n 0, 1) := by decide +kernel
theorem dX3_now_61 : decode cX3_now 61 = .ok (.getfield 12, 3) := by decide +kernel
theorem dX3_now_64 : decode cX3_now 64 = .ok (.getfield 53, 3) := by decide +kernel
theorem dX3_now_67 : decode cX3_now 67 = .ok (.aload_n 0, 1) := by decide +kernel
theorem dX3_now_68 : decode cX3_now 68 = .ok (.getfield 12, 3) := by decide +kernel
theorem dX3_now_71 : decode cX3_now 71 = .ok (.getfield 63, 3) := by decide +kernel
theorem dX3_now_74 : decode cX3_now 74 = .ok (.iaload, 1) := by decide +kernel
theorem dX3_now_75 : decode cX3_now 75 = .ok (.ireturn, 1) := by decide +kernel
theorem dX3_now_76 : decode cX3_now 76 = .ok (.aload_n 0, 1) := by decide +kernel
theorem dX3_now_77 : decode cX3_now 77 = .ok (.getfield 12, 3) := by decide +kernel
theorem dX3_now_80 : decode cX3_now 80 = .ok (.getfield 56, 3) := by decide +kernel
theorem dX3_now_83 : decode cX3_now 83 = .ok (.aload_n 0, 1) := by decide +kernel
theorem dX3_now_84 : decode cX3_now 84 = .ok (.getfield 12, 3) := by decide +kernel
theorem dX3_now_87 : decode cX3_now 87 = .ok (.getfield 63, 3) := by decide +kernel
theorem dX3_now_90 : decode cX3_now 90 = .ok (.iaload, 1) := by decide +kernel
theorem dX3_now_91 : decode cX3_now 91 = .ok (.ireturn, 1) := by decide +kernel
theorem dX3_now_92 : decode cX3_now 92 = .ok (.sipush 10000, 3) := by decide +kernel
theorem dX3_now_95 : decode cX3_now 95 = .ok (.aload_n 0, 1) := by decide +kernel
theorem dX3_now_96 : decode cX3_now 96 = .ok (.getfield 12, 3) := by decide +kernel
theorem dX3_now_99 : decode cX3_now 99 = .ok (.invokevirtual 66, 3) := by decide +kernel
theorem dX3_now_102 : decode cX3_now 102 = .ok (.iadd, 1) := by decide +kernel
theorem dX3_now_103 : decode cX3_now 103 = .ok (.ireturn, 1) := by decide +kernel
theorem dX3_now_104 : decode cX3_now 104 = .ok (.aload_n 0, 1) := by decide +kernel
theorem dX3_now_105 : decode cX3_now 105 = .ok (.getfield 12, 3) := by decide +kernel
theorem dX3_now_108 : decode cX3_now 108 = .ok (.invokevirtual 70, 3) := by decide +kernel
theorem dX3_now_111 : decode cX3_now 111 = .ok (.ireturn, 1) := by decide +kernel
theorem dX3_now_112 : decode cX3_now 112 = .ok (.aload_n 0, 1) := by decide +kernel
theorem dX3_now_113 : decode cX3_now 113 = .ok (.getfield 12, 3) := by decide +kernel
theorem dX3_now_116 : decode cX3_now 116 = .ok (.invokevirtual 73, 3) := by decide +kernel
theorem dX3_now_119 : decode cX3_now 119 = .ok (.ireturn, 1) := by decide +kernel
theorem dX3_now_120 : decode cX3_now 120 = .ok (.aload_n 0, 1) := by decide +kernel
theorem dX3_now_121 : decode cX3_now 121 = .ok (.ldc 48, 2) := by decide +kernel
theorem dX3_now_123 : decode cX3_now 123 = .ok (.invokevirtual 49, 3) := by decide +kernel
theorem dX3_now_126 : decode cX3_now 126 = .ok (.ireturn, 1) := by decide +kernel
set_option maxRecDepth 20000 in
theorem ggX3_person_X3_isIn : GoodIn wsX3_person wsX3_isIn := goodIn_r _ [7] (by decide +kernel) (by decide +kernel)
set_option maxRecDepth 20000 in
theorem gX3_person_X3_isIn : GoodIn wsX3_person (va_wsS RX3 44 yX3_isIn wsX3_isIn) := goodIn_app (goodIn_of _ (by decide +kernel)) ggX3_person_X3_isIn
set_option maxRecDepth 20000 in
theorem ggX3_person_X3_finding : GoodIn wsX3_person wsX3_finding := goodIn_r _ [11, 1, 12, 22, 23, 24, 25, 26, 27, 28] (by decide +kernel) (by decide +kernel)
set_option maxRecDepth 20000 in
theorem gX3_person_X3_finding : GoodIn wsX3_person (wsV RX3 49 RX3 yX3_finding wsX3_finding) := goodIn_app (goodIn_of _ (by decide +kernel)) ggX3_person_X3_finding
set_option maxRecDepth 20000 in
theorem ggX3_person_X0_seat : GoodIn wsX3_person wsX0_seat := goodIn_r _ [16, 17, 18, 19, 20, 21, 29, 30, 31, 32, 33, 34, 35, 36, 37, 38] (by decide +kernel) (by decide +kernel)
set_option maxRecDepth 20000 in
theorem gX3_person_X0_seat_n80 : GoodIn wsX3_person (wsX0_seat) := ggX3_person_X0_seat
theorem dX3_person_0 : decode cX3_person 0 = .ok (.iload_n 1, 1) := by decide +kernel
theorem dX3_person_1 : decode cX3_person 1 = .ok (.iconst 0, 1) := by decide +kernel
theorem dX3_person_2 : decode cX3_person 2 = .ok (.iconst 5, 1) := by decide +kernel
theorem dX3_person_3 : decode cX3_person 3 = .ok (.invokestatic 44, 3) := by decide +kernel
theorem dX3_person_6 : decode cX3_person 6 = .ok (.ifCond .ne 10, 3) := by decide +kernel
theorem dX3_person_9 : decode cX3_person 9 = .ok (.aload_n 0, 1) := by decide +kernel
theorem dX3_person_10 : decode cX3_person 10 = .ok (.ldc 48, 2) := by decide +kernel
theorem dX3_person_12 : decode cX3_person 12 = .ok (.invokevirtual 49, 3) := by decide +kernel
theorem dX3_person_15 : decode cX3_person 15 = .ok (.ireturn, 1) := by decide +kernel
theorem dX3_person_16 : decode cX3_person 16 = .ok (.aload_n 0, 1) := by decide +kernel
theorem dX3_person_17 : decode cX3_person 17 = .ok (.getfield 12, 3) := by decide +kernel
theorem dX3_person_20 : decode cX3_person 20 = .ok (.getfield 76, 3) := by decide +kernel
theorem dX3_person_23 : decode cX3_person 23 = .ok (.bipush 8, 2) := by decide +kernel
theorem dX3_person_25 : decode cX3_person 25 = .ok (.if_icmp .lt 10, 3) := by decide +kernel
theorem dX3_person_28 : decode cX3_person 28 = .ok (.aload_n 0, 1) := by decide +kernel
theorem dX3_person_29 : decode cX3_person 29 = .ok (.ldc 79, 2) := by decide +kernel
theorem dX3_person_31 : decode cX3_person 31 = .ok (.invokevirtual 49, 3) := by decide +kernel
theorem dX3_person_34 : decode cX3_person 34 = .ok (.ireturn, 1) := by decide +kernel
theorem dX3_person_35 : decode cX3_person 35 = .ok (.aload_n 0, 1) := by decide +kernel
theorem dX3_person_36 : decode cX3_person 36 = .ok (.getfield 12, 3) := by decide +kernel
theorem dX3_person_39 : decode cX3_person 39 = .ok (.iload_n 1, 1) := by decide +kernel
theorem dX3_person_40 : decode cX3_person 40 = .ok (.bipush 60, 2) := by decide +kernel
theorem dX3_person_42 : decode cX3_person 42 = .ok (.invokevirtual 80, 3) := by decide +kernel
theorem dX3_person_45 : decode cX3_person 45 = .ok (.ireturn, 1) := by decide +kernel
set_option maxRecDepth 20000 in
theorem ggX3_of_X3_isThere : GoodIn wsX3_of wsX3_isThere := goodIn_r _ [7, 2, 8, 9, 6, 10, 46, 47, 48, 49, 50, 51, 52, 53, 54, 55, 56, 57, 58, 59, 60, 61, 62] (by decide +kernel) (by decide +kernel)
set_option maxRecDepth 20000 in
theorem gX3_of_X3_isThere : GoodIn wsX3_of (wsV RX3 84 RX3 yX3_isThere wsX3_isThere) := goodIn_app (goodIn_of _ (by decide +kernel)) ggX3_of_X3_isThere
set_option maxRecDepth 20000 in
theorem ggX3_of_X3_finding : GoodIn wsX3_of wsX3_finding := goodIn_r _ [14, 1, 15, 46, 47, 48, 49, 50, 51, 52] (by decide +kernel) (by decide +kernel)
set_option maxRecDepth 20000 in
theorem gX3_of_X3_finding : GoodIn wsX3_of (wsV RX3 49 RX3 yX3_finding wsX3_finding) := goodIn_app (goodIn_of _ (by decide +kernel)) ggX3_of_X3_finding
set_option maxRecDepth 20000 in
theorem ggX3_of_X0_deedOf : GoodIn wsX3_of wsX0_deedOf := goodIn_r _ [19, 20, 21, 22, 23, 24, 25, 17, 26, 27, 28, 29, 30, 31, 32, 33, 34, 35, 36, 37, 38, 39, 40, 41, 42, 53, 54, 55, 56, 57, 58, 59, 60, 61, 62] (by decide +kernel) (by decide +kernel)
set_option maxRecDepth 20000 in
theorem gX3_of_X0_deedOf_n100 : GoodIn wsX3_of (wsX0_deedOf) := ggX3_of_X0_deedOf
set_option maxRecDepth 20000 in
theorem ggX3_of_X3_staleness : GoodIn wsX3_of wsX3_staleness := goodIn_r _ [45] (by decide +kernel) (by decide +kernel)
set_option maxRecDepth 20000 in
theorem gX3_of_X3_staleness : GoodIn wsX3_of (va_wsS RX3 103 yX3_staleness wsX3_staleness) := goodIn_app (goodIn_of _ (by decide +kernel)) ggX3_of_X3_staleness
theorem dX3_of_0 : decode cX3_of 0 = .ok (.aload_n 0, 1) := by decide +kernel
theorem dX3_of_1 : decode cX3_of 1 = .ok (.iload_n 1, 1) := by decide +kernel
theorem dX3_of_2 : decode cX3_of 2 = .ok (.invokevirtual 84, 3) := by decide +kernel
theorem dX3_of_5 : decode cX3_of 5 = .ok (.ifCond .ne 10, 3) := by decide +kernel
theorem dX3_of_8 : decode cX3_of 8 = .ok (.aload_n 0, 1) := by decide +kernel
theorem dX3_of_9 : decode cX3_of 9 = .ok (.ldc 48, 2) := by decide +kernel
theorem dX3_of_11 : decode cX3_of 11 = .ok (.invokevirtual 49, 3) := by decide +kernel
theorem dX3_of_14 : decode cX3_of 14 = .ok (.ireturn, 1) := by decide +kernel
theorem dX3_of_15 : decode cX3_of 15 = .ok (.iload_n 2, 1) := by decide +kernel
theorem dX3_of_16 : decode cX3_of 16 = .ok (.tableswitch 109 0 5 #[40, 50, 60, 74, 84, 93], 40) := by decide +kernel
theorem dX3_of_56 : decode cX3_of 56 = .ok (.aload_n 0, 1) := by decide +kernel
theorem dX3_of_57 : decode cX3_of 57 = .ok (.getfield 12, 3) := by decide +kernel
theorem dX3_of_60 : decode cX3_of 60 = .ok (.getfield 88, 3) := by decide +kernel
theorem dX3_of_63 : decode cX3_of 63 = .ok (.iload_n 1, 1) := by decide +kernel
theorem dX3_of_64 : decode cX3_of 64 = .ok (.iaload, 1) := by decide +kernel
theorem dX3_of_65 : decode cX3_of 65 = .ok (.ireturn, 1) := by decide +kernel
theorem dX3_of_66 : decode cX3_of 66 = .ok (.aload_n 0, 1) := by decide +kernel
theorem dX3_of_67 : decode cX3_of 67 = .ok (.getfield 12, 3) := by decide +kernel
theorem dX3_of_70 : decode cX3_of 70 = .ok (.getfield 91, 3) := by decide +kernel
theorem dX3_of_73 : decode cX3_of 73 = .ok (.iload_n 1, 1) := by decide +kernel
theorem dX3_of_74 : decode cX3_of 74 = .ok (.iaload, 1) := by decide +kernel
theorem dX3_of_75 : decode cX3_of 75 = .ok (.ireturn, 1) := by decide +kernel
theorem dX3_of_76 : decode cX3_of 76 = .ok (.sipush 10000, 3) := by decide +kernel
theorem dX3_of_79 : decode cX3_of 79 = .ok (.aload_n 0, 1) := by decide +kernel
theorem dX3_of_80 : decode cX3_of 80 = .ok (.getfield 12, 3) := by decide +kernel
theorem dX3_of_83 : decode cX3_of 83 = .ok (.getfield 94, 3) := by decide +kernel
theorem dX3_of_86 : decode cX3_of 86 = .ok (.iload_n 1, 1) := by decide +kernel
theorem dX3_of_87 : decode cX3_of 87 = .ok (.iaload, 1) := by decide +kernel
theorem dX3_of_88 : decode cX3_of 88 = .ok (.iadd, 1) := by decide +kernel
theorem dX3_of_89 : decode cX3_of 89 = .ok (.ireturn, 1) := by decide +kernel
theorem dX3_of_90 : decode cX3_of 90 = .ok (.aload_n 0, 1) := by decide +kernel
theorem dX3_of_91 : decode cX3_of 91 = .ok (.getfield 12, 3) := by decide +kernel
theorem dX3_of_94 : decode cX3_of 94 = .ok (.getfield 97, 3) := by decide +kernel
theorem dX3_of_97 : decode cX3_of 97 = .ok (.iload_n 1, 1) := by decide +kernel
theorem dX3_of_98 : decode cX3_of 98 = .ok (.iaload, 1) := by decide +kernel
theorem dX3_of_99 : decode cX3_of 99 = .ok (.ireturn, 1) := by decide +kernel
theorem dX3_of_100 : decode cX3_of 100 = .ok (.aload_n 0, 1) := by decide +kernel
theorem dX3_of_101 : decode cX3_of 101 = .ok (.getfield 12, 3) := by decide +kernel
theorem dX3_of_104 : decode cX3_of 104 = .ok (.iload_n 1, 1) := by decide +kernel
theorem dX3_of_105 : decode cX3_of 105 = .ok (.invokevirtual 100, 3) := by decide +kernel
theorem dX3_of_108 : decode cX3_of 108 = .ok (.ireturn, 1) := by decide +kernel
theorem dX3_of_109 : decode cX3_of 109 = .ok (.bipush 100, 2) := by decide +kernel
theorem dX3_of_111 : decode cX3_of 111 = .ok (.aload_n 0, 1) := by decide +kernel
theorem dX3_of_112 : decode cX3_of 112 = .ok (.getfield 12, 3) := by decide +kernel
theorem dX3_of_115 : decode cX3_of 115 = .ok (.getfield 88, 3) := by decide +kernel
theorem dX3_of_118 : decode cX3_of 118 = .ok (.iload_n 1, 1) := by decide +kernel
theorem dX3_of_119 : decode cX3_of 119 = .ok (.iaload, 1) := by decide +kernel
theorem dX3_of_120 : decode cX3_of 120 = .ok (.invokestatic 103, 3) := by decide +kernel
theorem dX3_of_123 : decode cX3_of 123 = .ok (.iadd, 1) := by decide +kernel
theorem dX3_of_124 : decode cX3_of 124 = .ok (.ireturn, 1) := by decide +kernel
theorem dX3_of_125 : decode cX3_of 125 = .ok (.aload_n 0, 1) := by decide +kernel
theorem dX3_of_126 : decode cX3_of 126 = .ok (.ldc 48, 2) := by decide +kernel
theorem dX3_of_128 : decode cX3_of 128 = .ok (.invokevirtual 49, 3) := by decide +kernel
theorem dX3_of_131 : decode cX3_of 131 = .ok (.ireturn, 1) := by decide +kernel
set_option maxRecDepth 20000 in
theorem ggX3_scores_X3_isThere : GoodIn wsX3_scores wsX3_isThere := goodIn_r _ [7, 2, 8, 9, 6, 10, 32, 33, 34, 35, 36, 37, 38, 39, 40, 41, 42, 43, 44, 45, 46, 47, 48] (by decide +kernel) (by decide +kernel)
set_option maxRecDepth 20000 in
theorem gX3_scores_X3_isThere : GoodIn wsX3_scores (wsV RX3 84 RX3 yX3_isThere wsX3_isThere) := goodIn_app (goodIn_of _ (by decide +kernel)) ggX3_scores_X3_isThere
set_option maxRecDepth 20000 in
theorem ggX3_scores_X3_isIn : GoodIn wsX3_scores wsX3_isIn := goodIn_r _ [10] (by decide +kernel) (by decide +kernel)
set_option maxRecDepth 20000 in
theorem gX3_scores_X3_isIn : GoodIn wsX3_scores (va_wsS RX3 44 yX3_isIn wsX3_isIn) := goodIn_app (goodIn_of _ (by decide +kernel)) ggX3_scores_X3_isIn
set_option maxRecDepth 20000 in
theorem ggX3_scores_X3_finding : GoodIn wsX3_scores wsX3_finding := goodIn_r _ [14, 1, 15, 32, 33, 34, 35, 36, 37, 38] (by decide +kernel) (by decide +kernel)
set_option maxRecDepth 20000 in
theorem gX3_scores_X3_finding : GoodIn wsX3_scores (wsV RX3 49 RX3 yX3_finding wsX3_finding) := goodIn_app (goodIn_of _ (by decide +kernel)) ggX3_scores_X3_finding
set_option maxRecDepth 20000 in
theorem ggX3_scores_X3_scoreFor : GoodIn wsX3_scores wsX3_scoreFor := goodIn_r _ [18, 19, 20, 21, 22, 23, 24, 6, 25, 26, 27, 28, 29, 30, 31] (by decide +kernel) (by decide +kernel)
set_option maxRecDepth 20000 in
theorem gX3_scores_X3_scoreFor : GoodIn wsX3_scores (va_wsS RX3 106 yX3_scoreFor wsX3_scoreFor) := goodIn_app (goodIn_of _ (by decide +kernel)) ggX3_scores_X3_scoreFor
theorem dX3_scores_0 : decode cX3_scores 0 = .ok (.aload_n 0, 1) := by decide +kernel
theorem dX3_scores_1 : decode cX3_scores 1 = .ok (.iload_n 1, 1) := by decide +kernel
theorem dX3_scores_2 : decode cX3_scores 2 = .ok (.invokevirtual 84, 3) := by decide +kernel
theorem dX3_scores_5 : decode cX3_scores 5 = .ok (.ifCond .eq 21, 3) := by decide +kernel
theorem dX3_scores_8 : decode cX3_scores 8 = .ok (.iload_n 2, 1) := by decide +kernel
theorem dX3_scores_9 : decode cX3_scores 9 = .ok (.iconst 0, 1) := by decide +kernel
theorem dX3_scores_10 : decode cX3_scores 10 = .ok (.iconst 4, 1) := by decide +kernel
theorem dX3_scores_11 : decode cX3_scores 11 = .ok (.invokestatic 44, 3) := by decide +kernel
theorem dX3_scores_14 : decode cX3_scores 14 = .ok (.ifCond .eq 12, 3) := by decide +kernel
theorem dX3_scores_17 : decode cX3_scores 17 = .ok (.iload_n 3, 1) := by decide +kernel
theorem dX3_scores_18 : decode cX3_scores 18 = .ok (.iconst 0, 1) := by decide +kernel
theorem dX3_scores_19 : decode cX3_scores 19 = .ok (.iconst 4, 1) := by decide +kernel
theorem dX3_scores_20 : decode cX3_scores 20 = .ok (.invokestatic 44, 3) := by decide +kernel
theorem dX3_scores_23 : decode cX3_scores 23 = .ok (.ifCond .ne 10, 3) := by decide +kernel
theorem dX3_scores_26 : decode cX3_scores 26 = .ok (.aload_n 0, 1) := by decide +kernel
theorem dX3_scores_27 : decode cX3_scores 27 = .ok (.ldc 48, 2) := by decide +kernel
theorem dX3_scores_29 : decode cX3_scores 29 = .ok (.invokevirtual 49, 3) := by decide +kernel
theorem dX3_scores_32 : decode cX3_scores 32 = .ok (.ireturn, 1) := by decide +kernel
theorem dX3_scores_33 : decode cX3_scores 33 = .ok (.bipush 100, 2) := by decide +kernel
theorem dX3_scores_35 : decode cX3_scores 35 = .ok (.aload_n 0, 1) := by decide +kernel
theorem dX3_scores_36 : decode cX3_scores 36 = .ok (.getfield 12, 3) := by decide +kernel
theorem dX3_scores_39 : decode cX3_scores 39 = .ok (.getfield 88, 3) := by decide +kernel
theorem dX3_scores_42 : decode cX3_scores 42 = .ok (.iload_n 1, 1) := by decide +kernel
theorem dX3_scores_43 : decode cX3_scores 43 = .ok (.iaload, 1) := by decide +kernel
theorem dX3_scores_44 : decode cX3_scores 44 = .ok (.iload_n 2, 1) := by decide +kernel
theorem dX3_scores_45 : decode cX3_scores 45 = .ok (.iload_n 3, 1) := by decide +kernel
theorem dX3_scores_46 : decode cX3_scores 46 = .ok (.invokestatic 106, 3) := by decide +kernel
theorem dX3_scores_49 : decode cX3_scores 49 = .ok (.iadd, 1) := by decide +kernel
theorem dX3_scores_50 : decode cX3_scores 50 = .ok (.ireturn, 1) := by decide +kernel
set_option maxRecDepth 20000 in
theorem ggX3_set_X3_isThere : GoodIn wsX3_set wsX3_isThere := goodIn_r _ [7, 2, 8, 9, 6, 10, 16, 17, 18, 19, 20, 21, 22, 23, 24, 25, 26, 27, 28, 29, 30, 31, 32] (by decide +kernel) (by decide +kernel)
set_option maxRecDepth 20000 in
theorem gX3_set_X3_isThere : GoodIn wsX3_set (wsV RX3 84 RX3 yX3_isThere wsX3_isThere) := goodIn_app (goodIn_of _ (by decide +kernel)) ggX3_set_X3_isThere
set_option maxRecDepth 20000 in
theorem ggX3_set_X3_finding : GoodIn wsX3_set wsX3_finding := goodIn_r _ [14, 1, 15, 16, 17, 18, 19, 20, 21, 22] (by decide +kernel) (by decide +kernel)
set_option maxRecDepth 20000 in
theorem gX3_set_X3_finding : GoodIn wsX3_set (wsV RX3 49 RX3 yX3_finding wsX3_finding) := goodIn_app (goodIn_of _ (by decide +kernel)) ggX3_set_X3_finding
set_option maxRecDepth 20000 in
theorem ggX3_set_X3_isIn : GoodIn wsX3_set wsX3_isIn := goodIn_r _ [10] (by decide +kernel) (by decide +kernel)
set_option maxRecDepth 20000 in
theorem gX3_set_X3_isIn : GoodIn wsX3_set (va_wsS RX3 44 yX3_isIn wsX3_isIn) := goodIn_app (goodIn_of _ (by decide +kernel)) ggX3_set_X3_isIn
theorem dX3_set_0 : decode cX3_set 0 = .ok (.aload_n 0, 1) := by decide +kernel
theorem dX3_set_1 : decode cX3_set 1 = .ok (.iload_n 1, 1) := by decide +kernel
theorem dX3_set_2 : decode cX3_set 2 = .ok (.invokevirtual 84, 3) := by decide +kernel
theorem dX3_set_5 : decode cX3_set 5 = .ok (.ifCond .ne 10, 3) := by decide +kernel
theorem dX3_set_8 : decode cX3_set 8 = .ok (.aload_n 0, 1) := by decide +kernel
theorem dX3_set_9 : decode cX3_set 9 = .ok (.ldc 48, 2) := by decide +kernel
theorem dX3_set_11 : decode cX3_set 11 = .ok (.invokevirtual 49, 3) := by decide +kernel
theorem dX3_set_14 : decode cX3_set 14 = .ok (.ireturn, 1) := by decide +kernel
theorem dX3_set_15 : decode cX3_set 15 = .ok (.iload_n 2, 1) := by decide +kernel
theorem dX3_set_16 : decode cX3_set 16 = .ok (.iconst 1, 1) := by decide +kernel
theorem dX3_set_17 : decode cX3_set 17 = .ok (.if_icmp .ne 37, 3) := by decide +kernel
theorem dX3_set_20 : decode cX3_set 20 = .ok (.iload_n 3, 1) := by decide +kernel
theorem dX3_set_21 : decode cX3_set 21 = .ok (.iconst 0, 1) := by decide +kernel
theorem dX3_set_22 : decode cX3_set 22 = .ok (.bipush 99, 2) := by decide +kernel
theorem dX3_set_24 : decode cX3_set 24 = .ok (.invokestatic 44, 3) := by decide +kernel
theorem dX3_set_27 : decode cX3_set 27 = .ok (.ifCond .eq 27, 3) := by decide +kernel
theorem dX3_set_30 : decode cX3_set 30 = .ok (.aload_n 0, 1) := by decide +kernel
theorem dX3_set_31 : decode cX3_set 31 = .ok (.getfield 12, 3) := by decide +kernel
theorem dX3_set_34 : decode cX3_set 34 = .ok (.getfield 91, 3) := by decide +kernel
theorem dX3_set_37 : decode cX3_set 37 = .ok (.iload_n 1, 1) := by decide +kernel
theorem dX3_set_38 : decode cX3_set 38 = .ok (.iaload, 1) := by decide +kernel
theorem dX3_set_39 : decode cX3_set 39 = .ok (.istore 4, 2) := by decide +kernel
theorem dX3_set_41 : decode cX3_set 41 = .ok (.aload_n 0, 1) := by decide +kernel
theorem dX3_set_42 : decode cX3_set 42 = .ok (.getfield 12, 3) := by decide +kernel
theorem dX3_set_45 : decode cX3_set 45 = .ok (.getfield 91, 3) := by decide +kernel
theorem dX3_set_48 : decode cX3_set 48 = .ok (.iload_n 1, 1) := by decide +kernel
theorem dX3_set_49 : decode cX3_set 49 = .ok (.iload_n 3, 1) := by decide +kernel
theorem dX3_set_50 : decode cX3_set 50 = .ok (.iastore, 1) := by decide +kernel
theorem dX3_set_51 : decode cX3_set 51 = .ok (.iload 4, 2) := by decide +kernel
theorem dX3_set_53 : decode cX3_set 53 = .ok (.ireturn, 1) := by decide +kernel
theorem dX3_set_54 : decode cX3_set 54 = .ok (.iload_n 2, 1) := by decide +kernel
theorem dX3_set_55 : decode cX3_set 55 = .ok (.iconst 2, 1) := by decide +kernel
theorem dX3_set_56 : decode cX3_set 56 = .ok (.if_icmp .ne 40, 3) := by decide +kernel
theorem dX3_set_59 : decode cX3_set 59 = .ok (.iload_n 3, 1) := by decide +kernel
theorem dX3_set_60 : decode cX3_set 60 = .ok (.sipush (-9999), 3) := by decide +kernel
theorem dX3_set_63 : decode cX3_set 63 = .ok (.sipush 9999, 3) := by decide +kernel
theorem dX3_set_66 : decode cX3_set 66 = .ok (.invokestatic 44, 3) := by decide +kernel
theorem dX3_set_69 : decode cX3_set 69 = .ok (.ifCond .eq 27, 3) := by decide +kernel
theorem dX3_set_72 : decode cX3_set 72 = .ok (.aload_n 0, 1) := by decide +kernel
theorem dX3_set_73 : decode cX3_set 73 = .ok (.getfield 12, 3) := by decide +kernel
theorem dX3_set_76 : decode cX3_set 76 = .ok (.getfield 94, 3) := by decide +kernel
theorem dX3_set_79 : decode cX3_set 79 = .ok (.iload_n 1, 1) := by decide +kernel
theorem dX3_set_80 : decode cX3_set 80 = .ok (.iaload, 1) := by decide +kernel
theorem dX3_set_81 : decode cX3_set 81 = .ok (.istore 4, 2) := by decide +kernel
theorem dX3_set_83 : decode cX3_set 83 = .ok (.aload_n 0, 1) := by decide +kernel
theorem dX3_set_84 : decode cX3_set 84 = .ok (.getfield 12, 3) := by decide +kernel
theorem dX3_set_87 : decode cX3_set 87 = .ok (.getfield 94, 3) := by decide +kernel
theorem dX3_set_90 : decode cX3_set 90 = .ok (.iload_n 1, 1) := by decide +kernel
theorem dX3_set_91 : decode cX3_set 91 = .ok (.iload_n 3, 1) := by decide +kernel
theorem dX3_set_92 : decode cX3_set 92 = .ok (.iastore, 1) := by decide +kernel
theorem dX3_set_93 : decode cX3_set 93 = .ok (.iload 4, 2) := by decide +kernel
theorem dX3_set_95 : decode cX3_set 95 = .ok (.ireturn, 1) := by decide +kernel
theorem dX3_set_96 : decode cX3_set 96 = .ok (.iload_n 2, 1) := by decide +kernel
theorem dX3_set_97 : decode cX3_set 97 = .ok (.iconst 3, 1) := by decide +kernel
theorem dX3_set_98 : decode cX3_set 98 = .ok (.if_icmp .ne 36, 3) := by decide +kernel
theorem dX3_set_101 : decode cX3_set 101 = .ok (.iload_n 3, 1) := by decide +kernel
theorem dX3_set_102 : decode cX3_set 102 = .ok (.iconst 0, 1) := by decide +kernel
theorem dX3_set_103 : decode cX3_set 103 = .ok (.iconst 4, 1) := by decide +kernel
theorem dX3_set_104 : decode cX3_set 104 = .ok (.invokestatic 44, 3) := by decide +kernel
theorem dX3_set_107 : decode cX3_set 107 = .ok (.ifCond .eq 27, 3) := by decide +kernel
theorem dX3_set_110 : decode cX3_set 110 = .ok (.aload_n 0, 1) := by decide +kernel
theorem dX3_set_111 : decode cX3_set 111 = .ok (.getfield 12, 3) := by decide +kernel
theorem dX3_set_114 : decode cX3_set 114 = .ok (.getfield 97, 3) := by decide +kernel
theorem dX3_set_117 : decode cX3_set 117 = .ok (.iload_n 1, 1) := by decide +kernel
theorem dX3_set_118 : decode cX3_set 118 = .ok (.iaload, 1) := by decide +kernel
theorem dX3_set_119 : decode cX3_set 119 = .ok (.istore 4, 2) := by decide +kernel
theorem dX3_set_121 : decode cX3_set 121 = .ok (.aload_n 0, 1) := by decide +kernel
theorem dX3_set_122 : decode cX3_set 122 = .ok (.getfield 12, 3) := by decide +kernel
theorem dX3_set_125 : decode cX3_set 125 = .ok (.getfield 97, 3) := by decide +kernel
theorem dX3_set_128 : decode cX3_set 128 = .ok (.iload_n 1, 1) := by decide +kernel
theorem dX3_set_129 : decode cX3_set 129 = .ok (.iload_n 3, 1) := by decide +kernel
theorem dX3_set_130 : decode cX3_set 130 = .ok (.iastore, 1) := by decide +kernel
theorem dX3_set_131 : decode cX3_set 131 = .ok (.iload 4, 2) := by decide +kernel
theorem dX3_set_133 : decode cX3_set 133 = .ok (.ireturn, 1) := by decide +kernel
theorem dX3_set_134 : decode cX3_set 134 = .ok (.aload_n 0, 1) := by decide +kernel
theorem dX3_set_135 : decode cX3_set 135 = .ok (.ldc 48, 2) := by decide +kernel
theorem dX3_set_137 : decode cX3_set 137 = .ok (.invokevirtual 49, 3) := by decide +kernel
theorem dX3_set_140 : decode cX3_set 140 = .ok (.ireturn, 1) := by decide +kernel
set_option maxRecDepth 20000 in
theorem ggX3_turn_X3_isThere : GoodIn wsX3_turn wsX3_isThere := goodIn_r _ [7, 2, 8, 9, 6, 10, 16, 17, 18, 19, 20, 21, 22, 23, 24, 25, 26, 27, 28, 29, 30, 31, 32] (by decide +kernel) (by decide +kernel)
set_option maxRecDepth 20000 in
theorem gX3_turn_X3_isThere : GoodIn wsX3_turn (wsV RX3 84 RX3 yX3_isThere wsX3_isThere) := goodIn_app (goodIn_of _ (by decide +kernel)) ggX3_turn_X3_isThere
set_option maxRecDepth 20000 in
theorem ggX3_turn_X3_isIn : GoodIn wsX3_turn wsX3_isIn := goodIn_r _ [10] (by decide +kernel) (by decide +kernel)
set_option maxRecDepth 20000 in
theorem gX3_turn_X3_isIn : GoodIn wsX3_turn (va_wsS RX3 44 yX3_isIn wsX3_isIn) := goodIn_app (goodIn_of _ (by decide +kernel)) ggX3_turn_X3_isIn
set_option maxRecDepth 20000 in
theorem ggX3_turn_X3_finding : GoodIn wsX3_turn wsX3_finding := goodIn_r _ [14, 1, 15, 16, 17, 18, 19, 20, 21, 22] (by decide +kernel) (by decide +kernel)
set_option maxRecDepth 20000 in
theorem gX3_turn_X3_finding : GoodIn wsX3_turn (wsV RX3 49 RX3 yX3_finding wsX3_finding) := goodIn_app (goodIn_of _ (by decide +kernel)) ggX3_turn_X3_finding
theorem dX3_turn_0 : decode cX3_turn 0 = .ok (.aload_n 0, 1) := by decide +kernel
theorem dX3_turn_1 : decode cX3_turn 1 = .ok (.iload_n 1, 1) := by decide +kernel
theorem dX3_turn_2 : decode cX3_turn 2 = .ok (.invokevirtual 84, 3) := by decide +kernel
theorem dX3_turn_5 : decode cX3_turn 5 = .ok (.ifCond .eq 12, 3) := by decide +kernel
theorem dX3_turn_8 : decode cX3_turn 8 = .ok (.iload_n 2, 1) := by decide +kernel
theorem dX3_turn_9 : decode cX3_turn 9 = .ok (.iconst 0, 1) := by decide +kernel
theorem dX3_turn_10 : decode cX3_turn 10 = .ok (.iconst 5, 1) := by decide +kernel
theorem dX3_turn_11 : decode cX3_turn 11 = .ok (.invokestatic 44, 3) := by decide +kernel
theorem dX3_turn_14 : decode cX3_turn 14 = .ok (.ifCond .ne 10, 3) := by decide +kernel
theorem dX3_turn_17 : decode cX3_turn 17 = .ok (.aload_n 0, 1) := by decide +kernel
theorem dX3_turn_18 : decode cX3_turn 18 = .ok (.ldc 48, 2) := by decide +kernel
theorem dX3_turn_20 : decode cX3_turn 20 = .ok (.invokevirtual 49, 3) := by decide +kernel
theorem dX3_turn_23 : decode cX3_turn 23 = .ok (.ireturn, 1) := by decide +kernel
theorem dX3_turn_24 : decode cX3_turn 24 = .ok (.aload_n 0, 1) := by decide +kernel
theorem dX3_turn_25 : decode cX3_turn 25 = .ok (.getfield 12, 3) := by decide +kernel
theorem dX3_turn_28 : decode cX3_turn 28 = .ok (.getfield 88, 3) := by decide +kernel
theorem dX3_turn_31 : decode cX3_turn 31 = .ok (.iload_n 1, 1) := by decide +kernel
theorem dX3_turn_32 : decode cX3_turn 32 = .ok (.iaload, 1) := by decide +kernel
theorem dX3_turn_33 : decode cX3_turn 33 = .ok (.istore_n 3, 1) := by decide +kernel
theorem dX3_turn_34 : decode cX3_turn 34 = .ok (.aload_n 0, 1) := by decide +kernel
theorem dX3_turn_35 : decode cX3_turn 35 = .ok (.getfield 12, 3) := by decide +kernel
theorem dX3_turn_38 : decode cX3_turn 38 = .ok (.getfield 88, 3) := by decide +kernel
theorem dX3_turn_41 : decode cX3_turn 41 = .ok (.iload_n 1, 1) := by decide +kernel
theorem dX3_turn_42 : decode cX3_turn 42 = .ok (.iload_n 2, 1) := by decide +kernel
theorem dX3_turn_43 : decode cX3_turn 43 = .ok (.iastore, 1) := by decide +kernel
theorem dX3_turn_44 : decode cX3_turn 44 = .ok (.iload_n 3, 1) := by decide +kernel
theorem dX3_turn_45 : decode cX3_turn 45 = .ok (.ireturn, 1) := by decide +kernel
set_option maxRecDepth 20000 in
theorem ggX3_as_X3_isThere : GoodIn wsX3_as wsX3_isThere := goodIn_r _ [8, 2, 9, 10, 7, 11, 21, 22, 23, 24, 25, 26, 27, 28, 29, 30, 31, 32, 33, 34, 35, 36, 37] (by decide +kernel) (by decide +kernel)
set_option maxRecDepth 20000 in
theorem gX3_as_X3_isThere : GoodIn wsX3_as (wsV RX3 84 RX3 yX3_isThere wsX3_isThere) := goodIn_app (goodIn_of _ (by decide +kernel)) ggX3_as_X3_isThere
set_option maxRecDepth 20000 in
theorem ggX3_as_X3_isIn : GoodIn wsX3_as wsX3_isIn := goodIn_r _ [11] (by decide +kernel) (by decide +kernel)
set_option maxRecDepth 20000 in
theorem gX3_as_X3_isIn : GoodIn wsX3_as (va_wsS RX3 44 yX3_isIn wsX3_isIn) := goodIn_app (goodIn_of _ (by decide +kernel)) ggX3_as_X3_isIn
set_option maxRecDepth 20000 in
theorem ggX3_as_X3_finding : GoodIn wsX3_as wsX3_finding := goodIn_r _ [15, 1, 16, 21, 22, 23, 24, 25, 26, 27] (by decide +kernel) (by decide +kernel)
set_option maxRecDepth 20000 in
theorem gX3_as_X3_finding : GoodIn wsX3_as (wsV RX3 49 RX3 yX3_finding wsX3_finding) := goodIn_app (goodIn_of _ (by decide +kernel)) ggX3_as_X3_finding
set_option maxRecDepth 20000 in
theorem ggX3_as_X3_isUnder : GoodIn wsX3_as wsX3_isUnder := goodIn_r _ [19, 20] (by decide +kernel) (by decide +kernel)
set_option maxRecDepth 20000 in
theorem gX3_as_X3_isUnder : GoodIn wsX3_as (va_wsS RX3 110 yX3_isUnder wsX3_isUnder) := goodIn_app (goodIn_of _ (by decide +kernel)) ggX3_as_X3_isUnder
theorem dX3_as_0 : decode cX3_as 0 = .ok (.aload_n 0, 1) := by decide +kernel
theorem dX3_as_1 : decode cX3_as 1 = .ok (.iload_n 1, 1) := by decide +kernel
theorem dX3_as_2 : decode cX3_as 2 = .ok (.invokevirtual 84, 3) := by decide +kernel
theorem dX3_as_5 : decode cX3_as 5 = .ok (.ifCond .eq 12, 3) := by decide +kernel
theorem dX3_as_8 : decode cX3_as 8 = .ok (.iload_n 2, 1) := by decide +kernel
theorem dX3_as_9 : decode cX3_as 9 = .ok (.iconst 0, 1) := by decide +kernel
theorem dX3_as_10 : decode cX3_as 10 = .ok (.iconst 5, 1) := by decide +kernel
theorem dX3_as_11 : decode cX3_as 11 = .ok (.invokestatic 44, 3) := by decide +kernel
theorem dX3_as_14 : decode cX3_as 14 = .ok (.ifCond .ne 10, 3) := by decide +kernel
theorem dX3_as_17 : decode cX3_as 17 = .ok (.aload_n 0, 1) := by decide +kernel
theorem dX3_as_18 : decode cX3_as 18 = .ok (.ldc 48, 2) := by decide +kernel
theorem dX3_as_20 : decode cX3_as 20 = .ok (.invokevirtual 49, 3) := by decide +kernel
theorem dX3_as_23 : decode cX3_as 23 = .ok (.ireturn, 1) := by decide +kernel
theorem dX3_as_24 : decode cX3_as 24 = .ok (.aload_n 0, 1) := by decide +kernel
theorem dX3_as_25 : decode cX3_as 25 = .ok (.getfield 12, 3) := by decide +kernel
theorem dX3_as_28 : decode cX3_as 28 = .ok (.getfield 88, 3) := by decide +kernel
theorem dX3_as_31 : decode cX3_as 31 = .ok (.iload_n 1, 1) := by decide +kernel
theorem dX3_as_32 : decode cX3_as 32 = .ok (.iaload, 1) := by decide +kernel
theorem dX3_as_33 : decode cX3_as 33 = .ok (.iload_n 2, 1) := by decide +kernel
theorem dX3_as_34 : decode cX3_as 34 = .ok (.invokestatic 110, 3) := by decide +kernel
theorem dX3_as_37 : decode cX3_as 37 = .ok (.ifCond .ne 10, 3) := by decide +kernel
theorem dX3_as_40 : decode cX3_as 40 = .ok (.aload_n 0, 1) := by decide +kernel
theorem dX3_as_41 : decode cX3_as 41 = .ok (.ldc 114, 2) := by decide +kernel
theorem dX3_as_43 : decode cX3_as 43 = .ok (.invokevirtual 49, 3) := by decide +kernel
theorem dX3_as_46 : decode cX3_as 46 = .ok (.ireturn, 1) := by decide +kernel
theorem dX3_as_47 : decode cX3_as 47 = .ok (.aload_n 0, 1) := by decide +kernel
theorem dX3_as_48 : decode cX3_as 48 = .ok (.getfield 12, 3) := by decide +kernel
theorem dX3_as_51 : decode cX3_as 51 = .ok (.getfield 91, 3) := by decide +kernel
theorem dX3_as_54 : decode cX3_as 54 = .ok (.iload_n 1, 1) := by decide +kernel
theorem dX3_as_55 : decode cX3_as 55 = .ok (.iaload, 1) := by decide +kernel
theorem dX3_as_56 : decode cX3_as 56 = .ok (.ireturn, 1) := by decide +kernel
set_option maxRecDepth 20000 in
theorem ggX3_swap_X3_isThere : GoodIn wsX3_swap wsX3_isThere := goodIn_r _ [7, 2, 8, 9, 6, 10, 27, 28, 29, 30, 31, 32, 33, 34, 35, 36, 37, 38, 39, 40, 41, 42, 43] (by decide +kernel) (by decide +kernel)
set_option maxRecDepth 20000 in
theorem gX3_swap_X3_isThere : GoodIn wsX3_swap (wsV RX3 84 RX3 yX3_isThere wsX3_isThere) := goodIn_app (goodIn_of _ (by decide +kernel)) ggX3_swap_X3_isThere
set_option maxRecDepth 20000 in
theorem ggX3_swap_X3_finding : GoodIn wsX3_swap wsX3_finding := goodIn_r _ [14, 1, 15, 27, 28, 29, 30, 31, 32, 33] (by decide +kernel) (by decide +kernel)
set_option maxRecDepth 20000 in
theorem gX3_swap_X3_finding : GoodIn wsX3_swap (wsV RX3 49 RX3 yX3_finding wsX3_finding) := goodIn_app (goodIn_of _ (by decide +kernel)) ggX3_swap_X3_finding
set_option maxRecDepth 20000 in
theorem ggX3_swap_X0_changeSeats : GoodIn wsX3_swap wsX0_changeSeats := goodIn_r _ [19, 20, 21, 22, 23, 24, 25, 17, 26, 34, 35, 36, 37, 38, 39, 40, 41, 42, 43] (by decide +kernel) (by decide +kernel)
set_option maxRecDepth 20000 in
theorem gX3_swap_X0_changeSeats_n115 : GoodIn wsX3_swap (wsX0_changeSeats) := ggX3_swap_X0_changeSeats
theorem dX3_swap_0 : decode cX3_swap 0 = .ok (.aload_n 0, 1) := by decide +kernel
theorem dX3_swap_1 : decode cX3_swap 1 = .ok (.iload_n 1, 1) := by decide +kernel
theorem dX3_swap_2 : decode cX3_swap 2 = .ok (.invokevirtual 84, 3) := by decide +kernel
theorem dX3_swap_5 : decode cX3_swap 5 = .ok (.ifCond .eq 16, 3) := by decide +kernel
theorem dX3_swap_8 : decode cX3_swap 8 = .ok (.aload_n 0, 1) := by decide +kernel
theorem dX3_swap_9 : decode cX3_swap 9 = .ok (.iload_n 2, 1) := by decide +kernel
theorem dX3_swap_10 : decode cX3_swap 10 = .ok (.invokevirtual 84, 3) := by decide +kernel
theorem dX3_swap_13 : decode cX3_swap 13 = .ok (.ifCond .eq 8, 3) := by decide +kernel
theorem dX3_swap_16 : decode cX3_swap 16 = .ok (.iload_n 1, 1) := by decide +kernel
theorem dX3_swap_17 : decode cX3_swap 17 = .ok (.iload_n 2, 1) := by decide +kernel
theorem dX3_swap_18 : decode cX3_swap 18 = .ok (.if_icmp .ne 10, 3) := by decide +kernel
theorem dX3_swap_21 : decode cX3_swap 21 = .ok (.aload_n 0, 1) := by decide +kernel
theorem dX3_swap_22 : decode cX3_swap 22 = .ok (.ldc 48, 2) := by decide +kernel
theorem dX3_swap_24 : decode cX3_swap 24 = .ok (.invokevirtual 49, 3) := by decide +kernel
theorem dX3_swap_27 : decode cX3_swap 27 = .ok (.ireturn, 1) := by decide +kernel
theorem dX3_swap_28 : decode cX3_swap 28 = .ok (.aload_n 0, 1) := by decide +kernel
theorem dX3_swap_29 : decode cX3_swap 29 = .ok (.getfield 12, 3) := by decide +kernel
theorem dX3_swap_32 : decode cX3_swap 32 = .ok (.iload_n 1, 1) := by decide +kernel
theorem dX3_swap_33 : decode cX3_swap 33 = .ok (.iload_n 2, 1) := by decide +kernel
theorem dX3_swap_34 : decode cX3_swap 34 = .ok (.invokevirtual 115, 3) := by decide +kernel
theorem dX3_swap_37 : decode cX3_swap 37 = .ok (.iconst 1, 1) := by decide +kernel
theorem dX3_swap_38 : decode cX3_swap 38 = .ok (.ireturn, 1) := by decide +kernel
set_option maxRecDepth 20000 in
theorem ggX3_moments_X3_isIn : GoodIn wsX3_moments wsX3_isIn := goodIn_r _ [7] (by decide +kernel) (by decide +kernel)
set_option maxRecDepth 20000 in
theorem gX3_moments_X3_isIn : GoodIn wsX3_moments (va_wsS RX3 44 yX3_isIn wsX3_isIn) := goodIn_app (goodIn_of _ (by decide +kernel)) ggX3_moments_X3_isIn
set_option maxRecDepth 20000 in
theorem ggX3_moments_X3_finding : GoodIn wsX3_moments wsX3_finding := goodIn_r _ [11, 1, 12, 77, 78, 79, 80, 81, 82, 83] (by decide +kernel) (by decide +kernel)
set_option maxRecDepth 20000 in
theorem gX3_moments_X3_finding : GoodIn wsX3_moments (wsV RX3 49 RX3 yX3_finding wsX3_finding) := goodIn_app (goodIn_of _ (by decide +kernel)) ggX3_moments_X3_finding
set_option maxRecDepth 20000 in
theorem ggX3_moments_X0_goOn : GoodIn wsX3_moments wsX0_goOn := goodIn_r _ [16, 17, 18, 19, 14, 20, 21, 22, 23, 24, 25, 26, 27, 28, 29, 30, 31, 32, 33, 34, 35, 36, 37, 38, 39, 40, 41, 42, 43, 44, 45, 46, 47, 48, 49, 50, 6, 51, 52, 53, 54, 55, 56, 57, 58, 59, 60, 61, 62, 63, 64, 65, 66, 67, 68, 69, 70, 71, 72, 73, 74, 75, 76, 84, 85, 86, 87, 88, 89, 90, 91, 92, 93] (by decide +kernel) (by decide +kernel)
set_option maxRecDepth 20000 in
theorem gX3_moments_X0_goOn_n120 : GoodIn wsX3_moments (wsX0_goOn) := ggX3_moments_X0_goOn
theorem dX3_moments_0 : decode cX3_moments 0 = .ok (.iload_n 1, 1) := by decide +kernel
theorem dX3_moments_1 : decode cX3_moments 1 = .ok (.iconst 1, 1) := by decide +kernel
theorem dX3_moments_2 : decode cX3_moments 2 = .ok (.sipush 200, 3) := by decide +kernel
theorem dX3_moments_5 : decode cX3_moments 5 = .ok (.invokestatic 44, 3) := by decide +kernel
theorem dX3_moments_8 : decode cX3_moments 8 = .ok (.ifCond .ne 10, 3) := by decide +kernel
theorem dX3_moments_11 : decode cX3_moments 11 = .ok (.aload_n 0, 1) := by decide +kernel
theorem dX3_moments_12 : decode cX3_moments 12 = .ok (.ldc 48, 2) := by decide +kernel
theorem dX3_moments_14 : decode cX3_moments 14 = .ok (.invokevirtual 49, 3) := by decide +kernel
theorem dX3_moments_17 : decode cX3_moments 17 = .ok (.ireturn, 1) := by decide +kernel
theorem dX3_moments_18 : decode cX3_moments 18 = .ok (.aload_n 0, 1) := by decide +kernel
theorem dX3_moments_19 : decode cX3_moments 19 = .ok (.getfield 12, 3) := by decide +kernel
theorem dX3_moments_22 : decode cX3_moments 22 = .ok (.getfield 59, 3) := by decide +kernel
theorem dX3_moments_25 : decode cX3_moments 25 = .ok (.aload_n 0, 1) := by decide +kernel
theorem dX3_moments_26 : decode cX3_moments 26 = .ok (.getfield 12, 3) := by decide +kernel
theorem dX3_moments_29 : decode cX3_moments 29 = .ok (.getfield 63, 3) := by decide +kernel
theorem dX3_moments_32 : decode cX3_moments 32 = .ok (.iload_n 1, 1) := by decide +kernel
theorem dX3_moments_33 : decode cX3_moments 33 = .ok (.iadd, 1) := by decide +kernel
theorem dX3_moments_34 : decode cX3_moments 34 = .ok (.bipush 16, 2) := by decide +kernel
theorem dX3_moments_36 : decode cX3_moments 36 = .ok (.idiv, 1) := by decide +kernel
