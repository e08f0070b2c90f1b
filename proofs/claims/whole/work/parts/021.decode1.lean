theorem dX2_takeNumber_51 : decode cX2_takeNumber 51 = .ok (.aload_n 0, 1) := by decide +kernel
theorem dX2_takeNumber_52 : decode cX2_takeNumber 52 = .ok (.getfield 22, 3) := by decide +kernel
theorem dX2_takeNumber_55 : decode cX2_takeNumber 55 = .ok (.baload, 1) := by decide +kernel
theorem dX2_takeNumber_56 : decode cX2_takeNumber 56 = .ok (.bipush 48, 2) := by decide +kernel
theorem dX2_takeNumber_58 : decode cX2_takeNumber 58 = .ok (.isub, 1) := by decide +kernel
theorem dX2_takeNumber_59 : decode cX2_takeNumber 59 = .ok (.iadd, 1) := by decide +kernel
theorem dX2_takeNumber_60 : decode cX2_takeNumber 60 = .ok (.invokestatic 146, 3) := by decide +kernel
theorem dX2_takeNumber_63 : decode cX2_takeNumber 63 = .ok (.putfield 28, 3) := by decide +kernel
theorem dX2_takeNumber_66 : decode cX2_takeNumber 66 = .ok (.aload_n 0, 1) := by decide +kernel
theorem dX2_takeNumber_67 : decode cX2_takeNumber 67 = .ok (.dup, 1) := by decide +kernel
theorem dX2_takeNumber_68 : decode cX2_takeNumber 68 = .ok (.getfield 22, 3) := by decide +kernel
theorem dX2_takeNumber_71 : decode cX2_takeNumber 71 = .ok (.iconst 1, 1) := by decide +kernel
theorem dX2_takeNumber_72 : decode cX2_takeNumber 72 = .ok (.iadd, 1) := by decide +kernel
theorem dX2_takeNumber_73 : decode cX2_takeNumber 73 = .ok (.putfield 22, 3) := by decide +kernel
theorem dX2_takeNumber_76 : decode cX2_takeNumber 76 = .ok (.goto (-66), 3) := by decide +kernel
theorem dX2_takeNumber_79 : decode cX2_takeNumber 79 = .ok (.return_, 1) := by decide +kernel
theorem dX2_isLetter_0 : decode cX2_isLetter 0 = .ok (.iload_n 0, 1) := by decide +kernel
theorem dX2_isLetter_1 : decode cX2_isLetter 1 = .ok (.bipush 97, 2) := by decide +kernel
theorem dX2_isLetter_3 : decode cX2_isLetter 3 = .ok (.if_icmp .lt 13, 3) := by decide +kernel
theorem dX2_isLetter_6 : decode cX2_isLetter 6 = .ok (.iload_n 0, 1) := by decide +kernel
theorem dX2_isLetter_7 : decode cX2_isLetter 7 = .ok (.bipush 122, 2) := by decide +kernel
theorem dX2_isLetter_9 : decode cX2_isLetter 9 = .ok (.if_icmp .gt 7, 3) := by decide +kernel
theorem dX2_isLetter_12 : decode cX2_isLetter 12 = .ok (.iconst 1, 1) := by decide +kernel
theorem dX2_isLetter_13 : decode cX2_isLetter 13 = .ok (.goto 4, 3) := by decide +kernel
theorem dX2_isLetter_16 : decode cX2_isLetter 16 = .ok (.iconst 0, 1) := by decide +kernel
theorem dX2_isLetter_17 : decode cX2_isLetter 17 = .ok (.ireturn, 1) := by decide +kernel
theorem dX2_isDigit_0 : decode cX2_isDigit 0 = .ok (.iload_n 0, 1) := by decide +kernel
theorem dX2_isDigit_1 : decode cX2_isDigit 1 = .ok (.bipush 48, 2) := by decide +kernel
theorem dX2_isDigit_3 : decode cX2_isDigit 3 = .ok (.if_icmp .lt 13, 3) := by decide +kernel
theorem dX2_isDigit_6 : decode cX2_isDigit 6 = .ok (.iload_n 0, 1) := by decide +kernel
theorem dX2_isDigit_7 : decode cX2_isDigit 7 = .ok (.bipush 57, 2) := by decide +kernel
theorem dX2_isDigit_9 : decode cX2_isDigit 9 = .ok (.if_icmp .gt 7, 3) := by decide +kernel
theorem dX2_isDigit_12 : decode cX2_isDigit 12 = .ok (.iconst 1, 1) := by decide +kernel
theorem dX2_isDigit_13 : decode cX2_isDigit 13 = .ok (.goto 4, 3) := by decide +kernel
theorem dX2_isDigit_16 : decode cX2_isDigit 16 = .ok (.iconst 0, 1) := by decide +kernel
theorem dX2_isDigit_17 : decode cX2_isDigit 17 = .ok (.ireturn, 1) := by decide +kernel
theorem dX3_init_0 : decode cX3_init 0 = .ok (.aload_n 0, 1) := by decide +kernel
theorem dX3_init_1 : decode cX3_init 1 = .ok (.invokespecial 3, 3) := by decide +kernel
theorem dX3_init_4 : decode cX3_init 4 = .ok (.aload_n 0, 1) := by decide +kernel
theorem dX3_init_5 : decode cX3_init 5 = .ok (.new 9, 3) := by decide +kernel
theorem dX3_init_8 : decode cX3_init 8 = .ok (.dup, 1) := by decide +kernel
theorem dX3_init_9 : decode cX3_init 9 = .ok (.invokespecial 11, 3) := by decide +kernel
theorem dX3_init_12 : decode cX3_init 12 = .ok (.putfield 12, 3) := by decide +kernel
theorem dX3_init_15 : decode cX3_init 15 = .ok (.aload_n 0, 1) := by decide +kernel
theorem dX3_init_16 : decode cX3_init 16 = .ok (.new 9, 3) := by decide +kernel
theorem dX3_init_19 : decode cX3_init 19 = .ok (.dup, 1) := by decide +kernel
theorem dX3_init_20 : decode cX3_init 20 = .ok (.invokespecial 11, 3) := by decide +kernel
theorem dX3_init_23 : decode cX3_init 23 = .ok (.putfield 16, 3) := by decide +kernel
theorem dX3_init_26 : decode cX3_init 26 = .ok (.aload_n 0, 1) := by decide +kernel
theorem dX3_init_27 : decode cX3_init 27 = .ok (.new 9, 3) := by decide +kernel
theorem dX3_init_30 : decode cX3_init 30 = .ok (.dup, 1) := by decide +kernel
theorem dX3_init_31 : decode cX3_init 31 = .ok (.invokespecial 11, 3) := by decide +kernel
theorem dX3_init_34 : decode cX3_init 34 = .ok (.putfield 19, 3) := by decide +kernel
theorem dX3_init_37 : decode cX3_init 37 = .ok (.aload_n 0, 1) := by decide +kernel
theorem dX3_init_38 : decode cX3_init 38 = .ok (.iconst 0, 1) := by decide +kernel
theorem dX3_init_39 : decode cX3_init 39 = .ok (.putfield 22, 3) := by decide +kernel
theorem dX3_init_42 : decode cX3_init 42 = .ok (.aload_n 0, 1) := by decide +kernel
theorem dX3_init_43 : decode cX3_init 43 = .ok (.new 26, 3) := by decide +kernel
theorem dX3_init_46 : decode cX3_init 46 = .ok (.dup, 1) := by decide +kernel
theorem dX3_init_47 : decode cX3_init 47 = .ok (.invokespecial 28, 3) := by decide +kernel
theorem dX3_init_50 : decode cX3_init 50 = .ok (.putfield 29, 3) := by decide +kernel
theorem dX3_init_53 : decode cX3_init 53 = .ok (.aload_n 0, 1) := by decide +kernel
theorem dX3_init_54 : decode cX3_init 54 = .ok (.iconst 4, 1) := by decide +kernel
theorem dX3_init_55 : decode cX3_init 55 = .ok (.anewarray 33, 3) := by decide +kernel
theorem dX3_init_58 : decode cX3_init 58 = .ok (.putfield 35, 3) := by decide +kernel
theorem dX3_init_61 : decode cX3_init 61 = .ok (.aload_n 0, 1) := by decide +kernel
theorem dX3_init_62 : decode cX3_init 62 = .ok (.bipush 7, 2) := by decide +kernel
theorem dX3_init_64 : decode cX3_init 64 = .ok (.newarray .int, 2) := by decide +kernel
theorem dX3_init_66 : decode cX3_init 66 = .ok (.putfield 39, 3) := by decide +kernel
theorem dX3_init_69 : decode cX3_init 69 = .ok (.iconst 0, 1) := by decide +kernel
theorem dX3_init_70 : decode cX3_init 70 = .ok (.istore_n 1, 1) := by decide +kernel
theorem dX3_init_71 : decode cX3_init 71 = .ok (.iload_n 1, 1) := by decide +kernel
theorem dX3_init_72 : decode cX3_init 72 = .ok (.iconst 4, 1) := by decide +kernel
theorem dX3_init_73 : decode cX3_init 73 = .ok (.if_icmp .ge 22, 3) := by decide +kernel
theorem dX3_init_76 : decode cX3_init 76 = .ok (.aload_n 0, 1) := by decide +kernel
theorem dX3_init_77 : decode cX3_init 77 = .ok (.getfield 35, 3) := by decide +kernel
theorem dX3_init_80 : decode cX3_init 80 = .ok (.iload_n 1, 1) := by decide +kernel
theorem dX3_init_81 : decode cX3_init 81 = .ok (.new 33, 3) := by decide +kernel
theorem dX3_init_84 : decode cX3_init 84 = .ok (.dup, 1) := by decide +kernel
theorem dX3_init_85 : decode cX3_init 85 = .ok (.invokespecial 43, 3) := by decide +kernel
theorem dX3_init_88 : decode cX3_init 88 = .ok (.aastore, 1) := by decide +kernel
theorem dX3_init_89 : decode cX3_init 89 = .ok (.iinc 1 1, 3) := by decide +kernel
theorem dX3_init_92 : decode cX3_init 92 = .ok (.goto (-21), 3) := by decide +kernel
theorem dX3_init_95 : decode cX3_init 95 = .ok (.return_, 1) := by decide +kernel
theorem dX3_play_0 : decode cX3_play 0 = .ok (.iload_n 1, 1) := by decide +kernel
theorem dX3_play_1 : decode cX3_play 1 = .ok (.iconst 0, 1) := by decide +kernel
theorem dX3_play_2 : decode cX3_play 2 = .ok (.bipush 15, 2) := by decide +kernel
theorem dX3_play_4 : decode cX3_play 4 = .ok (.invokestatic 44, 3) := by decide +kernel
theorem dX3_play_7 : decode cX3_play 7 = .ok (.ifCond .ne 10, 3) := by decide +kernel
theorem dX3_play_10 : decode cX3_play 10 = .ok (.aload_n 0, 1) := by decide +kernel
theorem dX3_play_11 : decode cX3_play 11 = .ok (.ldc 48, 2) := by decide +kernel
theorem dX3_play_13 : decode cX3_play 13 = .ok (.invokevirtual 49, 3) := by decide +kernel
theorem dX3_play_16 : decode cX3_play 16 = .ok (.ireturn, 1) := by decide +kernel
theorem dX3_play_17 : decode cX3_play 17 = .ok (.iload_n 2, 1) := by decide +kernel
theorem dX3_play_18 : decode cX3_play 18 = .ok (.ifCond .ne 36, 3) := by decide +kernel
theorem dX3_play_21 : decode cX3_play 21 = .ok (.iload_n 3, 1) := by decide +kernel
theorem dX3_play_22 : decode cX3_play 22 = .ok (.iconst 0, 1) := by decide +kernel
theorem dX3_play_23 : decode cX3_play 23 = .ok (.iconst 4, 1) := by decide +kernel
theorem dX3_play_24 : decode cX3_play 24 = .ok (.invokestatic 44, 3) := by decide +kernel
theorem dX3_play_27 : decode cX3_play 27 = .ok (.ifCond .eq 27, 3) := by decide +kernel
theorem dX3_play_30 : decode cX3_play 30 = .ok (.aload_n 0, 1) := by decide +kernel
theorem dX3_play_31 : decode cX3_play 31 = .ok (.getfield 12, 3) := by decide +kernel
theorem dX3_play_34 : decode cX3_play 34 = .ok (.getfield 53, 3) := by decide +kernel
theorem dX3_play_37 : decode cX3_play 37 = .ok (.iload_n 1, 1) := by decide +kernel
theorem dX3_play_38 : decode cX3_play 38 = .ok (.iaload, 1) := by decide +kernel
theorem dX3_play_39 : decode cX3_play 39 = .ok (.istore 4, 2) := by decide +kernel
theorem dX3_play_41 : decode cX3_play 41 = .ok (.aload_n 0, 1) := by decide +kernel
theorem dX3_play_42 : decode cX3_play 42 = .ok (.getfield 12, 3) := by decide +kernel
theorem dX3_play_45 : decode cX3_play 45 = .ok (.getfield 53, 3) := by decide +kernel
theorem dX3_play_48 : decode cX3_play 48 = .ok (.iload_n 1, 1) := by decide +kernel
theorem dX3_play_49 : decode cX3_play 49 = .ok (.iload_n 3, 1) := by decide +kernel
theorem dX3_play_50 : decode cX3_play 50 = .ok (.iastore, 1) := by decide +kernel
theorem dX3_play_51 : decode cX3_play 51 = .ok (.iload 4, 2) := by decide +kernel
theorem dX3_play_53 : decode cX3_play 53 = .ok (.ireturn, 1) := by decide +kernel
theorem dX3_play_54 : decode cX3_play 54 = .ok (.iload_n 2, 1) := by decide +kernel
theorem dX3_play_55 : decode cX3_play 55 = .ok (.iconst 1, 1) := by decide +kernel
theorem dX3_play_56 : decode cX3_play 56 = .ok (.if_icmp .ne 37, 3) := by decide +kernel
theorem dX3_play_59 : decode cX3_play 59 = .ok (.iload_n 3, 1) := by decide +kernel
theorem dX3_play_60 : decode cX3_play 60 = .ok (.iconst 0, 1) := by decide +kernel
theorem dX3_play_61 : decode cX3_play 61 = .ok (.bipush 20, 2) := by decide +kernel
theorem dX3_play_63 : decode cX3_play 63 = .ok (.invokestatic 44, 3) := by decide +kernel
theorem dX3_play_66 : decode cX3_play 66 = .ok (.ifCond .eq 27, 3) := by decide +kernel
theorem dX3_play_69 : decode cX3_play 69 = .ok (.aload_n 0, 1) := by decide +kernel
theorem dX3_play_70 : decode cX3_play 70 = .ok (.getfield 12, 3) := by decide +kernel
theorem dX3_play_73 : decode cX3_play 73 = .ok (.getfield 56, 3) := by decide +kernel
theorem dX3_play_76 : decode cX3_play 76 = .ok (.iload_n 1, 1) := by decide +kernel
theorem dX3_play_77 : decode cX3_play 77 = .ok (.iaload, 1) := by decide +kernel
theorem dX3_play_78 : decode cX3_play 78 = .ok (.istore 4, 2) := by decide +kernel
theorem dX3_play_80 : decode cX3_play 80 = .ok (.aload_n 0, 1) := by decide +kernel
theorem dX3_play_81 : decode cX3_play 81 = .ok (.getfield 12, 3) := by decide +kernel
theorem dX3_play_84 : decode cX3_play 84 = .ok (.getfield 56, 3) := by decide +kernel
theorem dX3_play_87 : decode cX3_play 87 = .ok (.iload_n 1, 1) := by decide +kernel
theorem dX3_play_88 : decode cX3_play 88 = .ok (.iload_n 3, 1) := by decide +kernel
theorem dX3_play_89 : decode cX3_play 89 = .ok (.iastore, 1) := by decide +kernel
theorem dX3_play_90 : decode cX3_play 90 = .ok (.iload 4, 2) := by decide +kernel
theorem dX3_play_92 : decode cX3_play 92 = .ok (.ireturn, 1) := by decide +kernel
theorem dX3_play_93 : decode cX3_play 93 = .ok (.aload_n 0, 1) := by decide +kernel
theorem dX3_play_94 : decode cX3_play 94 = .ok (.ldc 48, 2) := by decide +kernel
theorem dX3_play_96 : decode cX3_play 96 = .ok (.invokevirtual 49, 3) := by decide +kernel
theorem dX3_play_99 : decode cX3_play 99 = .ok (.ireturn, 1) := by decide +kernel
theorem dX3_now_0 : decode cX3_now 0 = .ok (.iload_n 1, 1) := by decide +kernel
theorem dX3_now_1 : decode cX3_now 1 = .ok (.tableswitch 119 0 6 #[43, 51, 59, 75, 91, 103, 111], 43) := by decide +kernel
theorem dX3_now_44 : decode cX3_now 44 = .ok (.aload_n 0, 1) := by decide +kernel
theorem dX3_now_45 : decode cX3_now 45 = .ok (.getfield 12, 3) := by decide +kernel
theorem dX3_now_48 : decode cX3_now 48 = .ok (.getfield 59, 3) := by decide +kernel
theorem dX3_now_51 : decode cX3_now 51 = .ok (.ireturn, 1) := by decide +kernel
theorem dX3_now_52 : decode cX3_now 52 = .ok (.aload_n 0, 1) := by decide +kernel
theorem dX3_now_53 : decode cX3_now 53 = .ok (.getfield 12, 3) := by decide +kernel
theorem dX3_now_56 : decode cX3_now 56 = .ok (.getfield 63, 3) := by decide +kernel
theorem dX3_now_59 : decode cX3_now 59 = .ok (.ireturn, 1) := by decide +kernel
theorem dX3_now_60 : decode cX3_now 60 = .ok (.aload_n 0, 1) := by decide +kernel
theorem dX3_now_61 : decode cX3_now 61 = .ok (.getfield 12, 3) := by decide +kernel
theorem dX3_now_64 : decode cX3_now 64 = .ok (.getfield 53, 3) := by decide +kernel
theorem dX3_now_67 : decode cX3_now 67 = .ok (.aload_n 0, 1) := by decide +kernel
theorem dX3_now_68 : decode cX3_now 68 = .ok (.getfield 12, 3) := by decide +kernel
theorem dX3_now_71 : decode cX3_now 71 = .ok (.getfield 63, 3) := by decide +kernel
theorem dX3_now_74 : decode cX3_now 74 = .ok (.iaload, 1) := by decide +kernel
theorem dX3_now_75 : decode cX3_now 75 = .ok (.ireturn, 1) := by decide +kernel
theorem dX3_now_76 : decode cX3_now 76 = .ok (.aload_n 0, 1) := by decide +kernel
theorem dX3_now_77 : decode cX3_now 77 = .ok (.getfield 12, 3) := by decide +kernel
theorem dX3_now_80 : decode cX3_now 80 = .ok (.getfield 56, 3) := by decide +kernel
theorem dX3_now_83 : decode cX3_now 83 = .ok (.aload_n 0, 1) := by decide +kernel
theorem dX3_now_84 : decode cX3_now 84 = .ok (.getfield 12, 3) := by decide +kernel
theorem dX3_now_87 : decode cX3_now 87 = .ok (.getfield 63, 3) := by decide +kernel
theorem dX3_now_90 : decode cX3_now 90 = .ok (.iaload, 1) := by decide +kernel
theorem dX3_now_91 : decode cX3_now 91 = .ok (.ireturn, 1) := by decide +kernel
theorem dX3_now_92 : decode cX3_now 92 = .ok (.sipush 10000, 3) := by decide +kernel
theorem dX3_now_95 : decode cX3_now 95 = .ok (.aload_n 0, 1) := by decide +kernel
theorem dX3_now_96 : decode cX3_now 96 = .ok (.getfield 12, 3) := by decide +kernel
theorem dX3_now_99 : decode cX3_now 99 = .ok (.invokevirtual 66, 3) := by decide +kernel
theorem dX3_now_102 : decode cX3_now 102 = .ok (.iadd, 1) := by decide +kernel
theorem dX3_now_103 : decode cX3_now 103 = .ok (.ireturn, 1) := by decide +kernel
theorem dX3_now_104 : decode cX3_now 104 = .ok (.aload_n 0, 1) := by decide +kernel
theorem dX3_now_105 : decode cX3_now 105 = .ok (.getfield 12, 3) := by decide +kernel
theorem dX3_now_108 : decode cX3_now 108 = .ok (.invokevirtual 70, 3) := by decide +kernel
theorem dX3_now_111 : decode cX3_now 111 = .ok (.ireturn, 1) := by decide +kernel
theorem dX3_now_112 : decode cX3_now 112 = .ok (.aload_n 0, 1) := by decide +kernel
theorem dX3_now_113 : decode cX3_now 113 = .ok (.getfield 12, 3) := by decide +kernel
theorem dX3_now_116 : decode cX3_now 116 = .ok (.invokevirtual 73, 3) := by decide +kernel
theorem dX3_now_119 : decode cX3_now 119 = .ok (.ireturn, 1) := by decide +kernel
theorem dX3_now_120 : decode cX3_now 120 = .ok (.aload_n 0, 1) := by decide +kernel
theorem dX3_now_121 : decode cX3_now 121 = .ok (.ldc 48, 2) := by decide +kernel
theorem dX3_now_123 : decode cX3_now 123 = .ok (.invokevirtual 49, 3) := by decide +kernel
theorem dX3_now_126 : decode cX3_now 126 = .ok (.ireturn, 1) := by decide +kernel
theorem dX3_person_0 : decode cX3_person 0 = .ok (.iload_n 1, 1) := by decide +kernel
theorem dX3_person_1 : decode cX3_person 1 = .ok (.iconst 0, 1) := by decide +kernel
theorem dX3_person_2 : decode cX3_person 2 = .ok (.iconst 5, 1) := by decide +kernel
theorem dX3_person_3 : decode cX3_person 3 = .ok (.invokestatic 44, 3) := by decide +kernel
theorem dX3_person_6 : decode cX3_person 6 = .ok (.ifCond .ne 10, 3) := by decide +kernel
theorem dX3_person_9 : decode cX3_person 9 = .ok (.aload_n 0, 1) := by decide +kernel
theorem dX3_person_10 : decode cX3_person 10 = .ok (.ldc 48, 2) := by decide +kernel
theorem dX3_person_12 : decode cX3_person 12 = .ok (.invokevirtual 49, 3) := by decide +kernel
theorem dX3_person_15 : decode cX3_person 15 = .ok (.ireturn, 1) := by decide +kernel
theorem dX3_person_16 : decode cX3_person 16 = .ok (.aload_n 0, 1) := by decide +kernel
theorem dX3_person_17 : decode cX3_person 17 = .ok (.getfield 12, 3) := by decide +kernel
theorem dX3_person_20 : decode cX3_person 20 = .ok (.getfield 76, 3) := by decide +kernel
theorem dX3_person_23 : decode cX3_person 23 = .ok (.bipush 8, 2) := by decide +kernel
theorem dX3_person_25 : decode cX3_person 25 = .ok (.if_icmp .lt 10, 3) := by decide +kernel
theorem dX3_person_28 : decode cX3_person 28 = .ok (.aload_n 0, 1) := by decide +kernel
theorem dX3_person_29 : decode cX3_person 29 = .ok (.ldc 79, 2) := by decide +kernel
theorem dX3_person_31 : decode cX3_person 31 = .ok (.invokevirtual 49, 3) := by decide +kernel
theorem dX3_person_34 : decode cX3_person 34 = .ok (.ireturn, 1) := by decide +kernel
theorem dX3_person_35 : decode cX3_person 35 = .ok (.aload_n 0, 1) := by decide +kernel
theorem dX3_person_36 : decode cX3_person 36 = .ok (.getfield 12, 3) := by decide +kernel
theorem dX3_person_39 : decode cX3_person 39 = .ok (.iload_n 1, 1) := by decide +kernel
theorem dX3_person_40 : decode cX3_person 40 = .ok (.bipush 60, 2) := by decide +kernel
theorem dX3_person_42 : decode cX3_person 42 = .ok (.invokevirtual 80, 3) := by decide +kernel
theorem dX3_person_45 : decode cX3_person 45 = .ok (.ireturn, 1) := by decide +kernel
theorem dX3_of_0 : decode cX3_of 0 = .ok (.aload_n 0, 1) := by decide +kernel
theorem dX3_of_1 : decode cX3_of 1 = .ok (.iload_n 1, 1) := by decide +kernel
theorem dX3_of_2 : decode cX3_of 2 = .ok (.invokevirtual 84, 3) := by decide +kernel
theorem dX3_of_5 : decode cX3_of 5 = .ok (.ifCond .ne 10, 3) := by decide +kernel
theorem dX3_of_8 : decode cX3_of 8 = .ok (.aload_n 0, 1) := by decide +kernel
theorem dX3_of_9 : decode cX3_of 9 = .ok (.ldc 48, 2) := by decide +kernel
theorem dX3_of_11 : decode cX3_of 11 = .ok (.invokevirtual 49, 3) := by decide +kernel
theorem dX3_of_14 : decode cX3_of 14 = .ok (.ireturn, 1) := by decide +kernel
theorem dX3_of_15 : decode cX3_of 15 = .ok (.iload_n 2, 1) := by decide +kernel
theorem dX3_of_16 : decode cX3_of 16 = .ok (.tableswitch 109 0 5 #[40, 50, 60, 74, 84, 93], 40) := by decide +kernel
theorem dX3_of_56 : decode cX3_of 56 = .ok (.aload_n 0, 1) := by decide +kernel
theorem dX3_of_57 : decode cX3_of 57 = .ok (.getfield 12, 3) := by decide +kernel
theorem dX3_of_60 : decode cX3_of 60 = .ok (.getfield 88, 3) := by decide +kernel
theorem dX3_of_63 : decode cX3_of 63 = .ok (.iload_n 1, 1) := by decide +kernel
theorem dX3_of_64 : decode cX3_of 64 = .ok (.iaload, 1) := by decide +kernel
theorem dX3_of_65 : decode cX3_of 65 = .ok (.ireturn, 1) := by decide +kernel
theorem dX3_of_66 : decode cX3_of 66 = .ok (.aload_n 0, 1) := by decide +kernel
theorem dX3_of_67 : decode cX3_of 67 = .ok (.getfield 12, 3) := by decide +kernel
theorem dX3_of_70 : decode cX3_of 70 = .ok (.getfield 91, 3) := by decide +kernel
theorem dX3_of_73 : decode cX3_of 73 = .ok (.iload_n 1, 1) := by decide +kernel
theorem dX3_of_74 : decode cX3_of 74 = .ok (.iaload, 1) := by decide +kernel
theorem dX3_of_75 : decode cX3_of 75 = .ok (.ireturn, 1) := by decide +kernel
theorem dX3_of_76 : decode cX3_of 76 = .ok (.sipush 10000, 3) := by decide +kernel
theorem dX3_of_79 : decode cX3_of 79 = .ok (.aload_n 0, 1) := by decide +kernel
theorem dX3_of_80 : decode cX3_of 80 = .ok (.getfield 12, 3) := by decide +kernel
theorem dX3_of_83 : decode cX3_of 83 = .ok (.getfield 94, 3) := by decide +kernel
theorem dX3_of_86 : decode cX3_of 86 = .ok (.iload_n 1, 1) := by decide +kernel
theorem dX3_of_87 : decode cX3_of 87 = .ok (.iaload, 1) := by decide +kernel
theorem dX3_of_88 : decode cX3_of 88 = .ok (.iadd, 1) := by decide +kernel
theorem dX3_of_89 : decode cX3_of 89 = .ok (.ireturn, 1) := by decide +kernel
theorem dX3_of_90 : decode cX3_of 90 = .ok (.aload_n 0, 1) := by decide +kernel
theorem dX3_of_91 : decode cX3_of 91 = .ok (.getfield 12, 3) := by decide +kernel
theorem dX3_of_94 : decode cX3_of 94 = .ok (.getfield 97, 3) := by decide +kernel
theorem dX3_of_97 : decode cX3_of 97 = .ok (.iload_n 1, 1) := by decide +kernel
theorem dX3_of_98 : decode cX3_of 98 = .ok (.iaload, 1) := by decide +kernel
theorem dX3_of_99 : decode cX3_of 99 = .ok (.ireturn, 1) := by decide +kernel
theorem dX3_of_100 : decode cX3_of 100 = .ok (.aload_n 0, 1) := by decide +kernel
theorem dX3_of_101 : decode cX3_of 101 = .ok (.getfield 12, 3) := by decide +kernel
theorem dX3_of_104 : decode cX3_of 104 = .ok (.iload_n 1, 1) := by decide +kernel
theorem dX3_of_105 : decode cX3_of 105 = .ok (.invokevirtual 100, 3) := by decide +kernel
theorem dX3_of_108 : decode cX3_of 108 = .ok (.ireturn, 1) := by decide +kernel
theorem dX3_of_109 : decode cX3_of 109 = .ok (.bipush 100, 2) := by decide +kernel
theorem dX3_of_111 : decode cX3_of 111 = .ok (.aload_n 0, 1) := by decide +kernel
theorem dX3_of_112 : decode cX3_of 112 = .ok (.getfield 12, 3) := by decide +kernel
theorem dX3_of_115 : decode cX3_of 115 = .ok (.getfield 88, 3) := by decide +kernel
theorem dX3_of_118 : decode cX3_of 118 = .ok (.iload_n 1, 1) := by decide +kernel
theorem dX3_of_119 : decode cX3_of 119 = .ok (.iaload, 1) := by decide +kernel
theorem dX3_of_120 : decode cX3_of 120 = .ok (.invokestatic 103, 3) := by decide +kernel
theorem dX3_of_123 : decode cX3_of 123 = .ok (.iadd, 1) := by decide +kernel
theorem dX3_of_124 : decode cX3_of 124 = .ok (.ireturn, 1) := by decide +kernel
theorem dX3_of_125 : decode cX3_of 125 = .ok (.aload_n 0, 1) := by decide +kernel
theorem dX3_of_126 : decode cX3_of 126 = .ok (.ldc 48, 2) := by decide +kernel
theorem dX3_of_128 : decode cX3_of 128 = .ok (.invokevirtual 49, 3) := by decide +kernel
theorem dX3_of_131 : decode cX3_of 131 = .ok (.ireturn, 1) := by decide +kernel
theorem dX3_scores_0 : decode cX3_scores 0 = .ok (.aload_n 0, 1) := by decide +kernel
theorem dX3_scores_1 : decode cX3_scores 1 = .ok (.iload_n 1, 1) := by decide +kernel
theorem dX3_scores_2 : decode cX3_scores 2 = .ok (.invokevirtual 84, 3) := by decide +kernel
theorem dX3_scores_5 : decode cX3_scores 5 = .ok (.ifCond .eq 21, 3) := by decide +kernel
theorem dX3_scores_8 : decode cX3_scores 8 = .ok (.iload_n 2, 1) := by decide +kernel
theorem dX3_scores_9 : decode cX3_scores 9 = .ok (.iconst 0, 1) := by decide +kernel
theorem dX3_scores_10 : decode cX3_scores 10 = .ok (.iconst 4, 1) := by decide +kernel
theorem dX3_scores_11 : decode cX3_scores 11 = .ok (.invokestatic 44, 3) := by decide +kernel
theorem dX3_scores_14 : decode cX3_scores 14 = .ok (.ifCond .eq 12, 3) := by decide +kernel
theorem dX3_scores_17 : decode cX3_scores 17 = .ok (.iload_n 3, 1) := by decide +kernel
theorem dX3_scores_18 : decode cX3_scores 18 = .ok (.iconst 0, 1) := by decide +kernel
theorem dX3_scores_19 : decode cX3_scores 19 = .ok (.iconst 4, 1) := by decide +kernel
theorem dX3_scores_20 : decode cX3_scores 20 = .ok (.invokestatic 44, 3) := by decide +kernel
theorem dX3_scores_23 : decode cX3_scores 23 = .ok (.ifCond .ne 10, 3) := by decide +kernel
theorem dX3_scores_26 : decode cX3_scores 26 = .ok (.aload_n 0, 1) := by decide +kernel
theorem dX3_scores_27 : decode cX3_scores 27 = .ok (.ldc 48, 2) := by decide +kernel
theorem dX3_scores_29 : decode cX3_scores 29 = .ok (.invokevirtual 49, 3) := by decide +kernel
theorem dX3_scores_32 : decode cX3_scores 32 = .ok (.ireturn, 1) := by decide +kernel
theorem dX3_scores_33 : decode cX3_scores 33 = .ok (.bipush 100, 2) := by decide +kernel
theorem dX3_scores_35 : decode cX3_scores 35 = .ok (.aload_n 0, 1) := by decide +kernel
theorem dX3_scores_36 : decode cX3_scores 36 = .ok (.getfield 12, 3) := by decide +kernel
theorem dX3_scores_39 : decode cX3_scores 39 = .ok (.getfield 88, 3) := by decide +kernel
theorem dX3_scores_42 : decode cX3_scores 42 = .ok (.iload_n 1, 1) := by decide +kernel
theorem dX3_scores_43 : decode cX3_scores 43 = .ok (.iaload, 1) := by decide +kernel
theorem dX3_scores_44 : decode cX3_scores 44 = .ok (.iload_n 2, 1) := by decide +kernel
theorem dX3_scores_45 : decode cX3_scores 45 = .ok (.iload_n 3, 1) := by decide +kernel
theorem dX3_scores_46 : decode cX3_scores 46 = .ok (.invokestatic 106, 3) := by decide +kernel
theorem dX3_scores_49 : decode cX3_scores 49 = .ok (.iadd, 1) := by decide +kernel
theorem dX3_scores_50 : decode cX3_scores 50 = .ok (.ireturn, 1) := by decide +kernel
theorem dX3_set_0 : decode cX3_set 0 = .ok (.aload_n 0, 1) := by decide +kernel
theorem dX3_set_1 : decode cX3_set 1 = .ok (.iload_n 1, 1) := by decide +kernel
theorem dX3_set_2 : decode cX3_set 2 = .ok (.invokevirtual 84, 3) := by decide +kernel
theorem dX3_set_5 : decode cX3_set 5 = .ok (.ifCond .ne 10, 3) := by decide +kernel
theorem dX3_set_8 : decode cX3_set 8 = .ok (.aload_n 0, 1) := by decide +kernel
theorem dX3_set_9 : decode cX3_set 9 = .ok (.ldc 48, 2) := by decide +kernel
theorem dX3_set_11 : decode cX3_set 11 = .ok (.invokevirtual 49, 3) := by decide +kernel
theorem dX3_set_14 : decode cX3_set 14 = .ok (.ireturn, 1) := by decide +kernel
theorem dX3_set_15 : decode cX3_set 15 = .ok (.iload_n 2, 1) := by decide +kernel
theorem dX3_set_16 : decode cX3_set 16 = .ok (.iconst 1, 1) := by decide +kernel
theorem dX3_set_17 : decode cX3_set 17 = .ok (.if_icmp .ne 37, 3) := by decide +kernel
theorem dX3_set_20 : decode cX3_set 20 = .ok (.iload_n 3, 1) := by decide +kernel
theorem dX3_set_21 : decode cX3_set 21 = .ok (.iconst 0, 1) := by decide +kernel
theorem dX3_set_22 : decode cX3_set 22 = .ok (.bipush 99, 2) := by decide +kernel
theorem dX3_set_24 : decode cX3_set 24 = .ok (.invokestatic 44, 3) := by decide +kernel
theorem dX3_set_27 : decode cX3_set 27 = .ok (.ifCond .eq 27, 3) := by decide +kernel
theorem dX3_set_30 : decode cX3_set 30 = .ok (.aload_n 0, 1) := by decide +kernel
theorem dX3_set_31 : decode cX3_set 31 = .ok (.getfield 12, 3) := by decide +kernel
theorem dX3_set_34 : decode cX3_set 34 = .ok (.getfield 91, 3) := by decide +kernel
theorem dX3_set_37 : decode cX3_set 37 = .ok (.iload_n 1, 1) := by decide +kernel
theorem dX3_set_38 : decode cX3_set 38 = .ok (.iaload, 1) := by decide +kernel
theorem dX3_set_39 : decode cX3_set 39 = .ok (.istore 4, 2) := by decide +kernel
theorem dX3_set_41 : decode cX3_set 41 = .ok (.aload_n 0, 1) := by decide +kernel
theorem dX3_set_42 : decode cX3_set 42 = .ok (.getfield 12, 3) := by decide +kernel
theorem dX3_set_45 : decode cX3_set 45 = .ok (.getfield 91, 3) := by decide +kernel
theorem dX3_set_48 : decode cX3_set 48 = .ok (.iload_n 1, 1) := by decide +kernel
theorem dX3_set_49 : decode cX3_set 49 = .ok (.iload_n 3, 1) := by decide +kernel
theorem dX3_set_50 : decode cX3_set 50 = .ok (.iastore, 1) := by decide +kernel
theorem dX3_set_51 : decode cX3_set 51 = .ok (.iload 4, 2) := by decide +kernel
theorem dX3_set_53 : decode cX3_set 53 = .ok (.ireturn, 1) := by decide +kernel
theorem dX3_set_54 : decode cX3_set 54 = .ok (.iload_n 2, 1) := by decide +kernel
theorem dX3_set_55 : decode cX3_set 55 = .ok (.iconst 2, 1) := by decide +kernel
theorem dX3_set_56 : decode cX3_set 56 = .ok (.if_icmp .ne 40, 3) := by decide +kernel
theorem dX3_set_59 : decode cX3_set 59 = .ok (.iload_n 3, 1) := by decide +kernel
theorem dX3_set_60 : decode cX3_set 60 = .ok (.sipush (-9999), 3) := by decide +kernel
theorem dX3_set_63 : decode cX3_set 63 = .ok (.sipush 9999, 3) := by decide +kernel
theorem dX3_set_66 : decode cX3_set 66 = .ok (.invokestatic 44, 3) := by decide +kernel
theorem dX3_set_69 : decode cX3_set 69 = .ok (.ifCond .eq 27, 3) := by decide +kernel
theorem dX3_set_72 : decode cX3_set 72 = .ok (.aload_n 0, 1) := by decide +kernel
theorem dX3_set_73 : decode cX3_set 73 = .ok (.getfield 12, 3) := by decide +kernel
theorem dX3_set_76 : decode cX3_set 76 = .ok (.getfield 94, 3) := by decide +kernel
theorem dX3_set_79 : decode cX3_set 79 = .ok (.iload_n 1, 1) := by decide +kernel
theorem dX3_set_80 : decode cX3_set 80 = .ok (.iaload, 1) := by decide +kernel
theorem dX3_set_81 : decode cX3_set 81 = .ok (.istore 4, 2) := by decide +kernel
theorem dX3_set_83 : decode cX3_set 83 = .ok (.aload_n 0, 1) := by decide +kernel
theorem dX3_set_84 : decode cX3_set 84 = .ok (.getfield 12, 3) := by decide +kernel
theorem dX3_set_87 : decode cX3_set 87 = .ok (.getfield 94, 3) := by decide +kernel
theorem dX3_set_90 : decode cX3_set 90 = .ok (.iload_n 1, 1) := by decide +kernel
theorem dX3_set_91 : decode cX3_set 91 = .ok (.iload_n 3, 1) := by decide +kernel
theorem dX3_set_92 : decode cX3_set 92 = .ok (.iastore, 1) := by decide +kernel
theorem dX3_set_93 : decode cX3_set 93 = .ok (.iload 4, 2) := by decide +kernel
theorem dX3_set_95 : decode cX3_set 95 = .ok (.ireturn, 1) := by decide +kernel
theorem dX3_set_96 : decode cX3_set 96 = .ok (.iload_n 2, 1) := by decide +kernel
theorem dX3_set_97 : decode cX3_set 97 = .ok (.iconst 3, 1) := by decide +kernel
theorem dX3_set_98 : decode cX3_set 98 = .ok (.if_icmp .ne 36, 3) := by decide +kernel
theorem dX3_set_101 : decode cX3_set 101 = .ok (.iload_n 3, 1) := by decide +kernel
theorem dX3_set_102 : decode cX3_set 102 = .ok (.iconst 0, 1) := by decide +kernel
theorem dX3_set_103 : decode cX3_set 103 = .ok (.iconst 4, 1) := by decide +kernel
theorem dX3_set_104 : decode cX3_set 104 = .ok (.invokestatic 44, 3) := by decide +kernel
theorem dX3_set_107 : decode cX3_set 107 = .ok (.ifCond .eq 27, 3) := by decide +kernel
theorem dX3_set_110 : decode cX3_set 110 = .ok (.aload_n 0, 1) := by decide +kernel
theorem dX3_set_111 : decode cX3_set 111 = .ok (.getfield 12, 3) := by decide +kernel
theorem dX3_set_114 : decode cX3_set 114 = .ok (.getfield 97, 3) := by decide +kernel
theorem dX3_set_117 : decode cX3_set 117 = .ok (.iload_n 1, 1) := by decide +kernel
theorem dX3_set_118 : decode cX3_set 118 = .ok (.iaload, 1) := by decide +kernel
theorem dX3_set_119 : decode cX3_set 119 = .ok (.istore 4, 2) := by decide +kernel
theorem dX3_set_121 : decode cX3_set 121 = .ok (.aload_n 0, 1) := by decide +kernel
theorem dX3_set_122 : decode cX3_set 122 = .ok (.getfield 12, 3) := by decide +kernel
theorem dX3_set_125 : decode cX3_set 125 = .ok (.getfield 97, 3) := by decide +kernel
theorem dX3_set_128 : decode cX3_set 128 = .ok (.iload_n 1, 1) := by decide +kernel
theorem dX3_set_129 : decode cX3_set 129 = .ok (.iload_n 3, 1) := by decide +kernel
theorem dX3_set_130 : decode cX3_set 130 = .ok (.iastore, 1) := by decide +kernel
theorem dX3_set_131 : decode cX3_set 131 = .ok (.iload 4, 2) := by decide +kernel
theorem dX3_set_133 : decode cX3_set 133 = .ok (.ireturn, 1) := by decide +kernel
theorem dX3_set_134 : decode cX3_set 134 = .ok (.aload_n 0, 1) := by decide +kernel
theorem dX3_set_135 : decode cX3_set 135 = .ok (.ldc 48, 2) := by decide +kernel
theorem dX3_set_137 : decode cX3_set 137 = .ok (.invokevirtual 49, 3) := by decide +kernel
theorem dX3_set_140 : decode cX3_set 140 = .ok (.ireturn, 1) := by decide +kernel
theorem dX3_turn_0 : decode cX3_turn 0 = .ok (.aload_n 0, 1) := by decide +kernel
theorem dX3_turn_1 : decode cX3_turn 1 = .ok (.iload_n 1, 1) := by decide +kernel
theorem dX3_turn_2 : decode cX3_turn 2 = .ok (.invokevirtual 84, 3) := by decide +kernel
theorem dX3_turn_5 : decode cX3_turn 5 = .ok (.ifCond .eq 12, 3) := by decide +kernel
theorem dX3_turn_8 : decode cX3_turn 8 = .ok (.iload_n 2, 1) := by decide +kernel
theorem dX3_turn_9 : decode cX3_turn 9 = .ok (.iconst 0, 1) := by decide +kernel
theorem dX3_turn_10 : decode cX3_turn 10 = .ok (.iconst 5, 1) := by decide +kernel
theorem dX3_turn_11 : decode cX3_turn 11 = .ok (.invokestatic 44, 3) := by decide +kernel
theorem dX3_turn_14 : decode cX3_turn 14 = .ok (.ifCond .ne 10, 3) := by decide +kernel
theorem dX3_turn_17 : decode cX3_turn 17 = .ok (.aload_n 0, 1) := by decide +kernel
theorem dX3_turn_18 : decode cX3_turn 18 = .ok (.ldc 48, 2) := by decide +kernel
theorem dX3_turn_20 : decode cX3_turn 20 = .ok (.invokevirtual 49, 3) := by decide +kernel
theorem dX3_turn_23 : decode cX3_turn 23 = .ok (.ireturn, 1) := by decide +kernel
theorem dX3_turn_24 : decode cX3_turn 24 = .ok (.aload_n 0, 1) := by decide +kernel
theorem dX3_turn_25 : decode cX3_turn 25 = .ok (.getfield 12, 3) := by decide +kernel
theorem dX3_turn_28 : decode cX3_turn 28 = .ok (.getfield 88, 3) := by decide +kernel
theorem dX3_turn_31 : decode cX3_turn 31 = .ok (.iload_n 1, 1) := by decide +kernel
theorem dX3_turn_32 : decode cX3_turn 32 = .ok (.iaload, 1) := by decide +kernel
theorem dX3_turn_33 : decode cX3_turn 33 = .ok (.istore_n 3, 1) := by decide +kernel
theorem dX3_turn_34 : decode cX3_turn 34 = .ok (.aload_n 0, 1) := by decide +kernel
theorem dX3_turn_35 : decode cX3_turn 35 = .ok (.getfield 12, 3) := by decide +kernel
theorem dX3_turn_38 : decode cX3_turn 38 = .ok (.getfield 88, 3) := by decide +kernel
theorem dX3_turn_41 : decode cX3_turn 41 = .ok (.iload_n 1, 1) := by decide +kernel
theorem dX3_turn_42 : decode cX3_turn 42 = .ok (.iload_n 2, 1) := by decide +kernel
theorem dX3_turn_43 : decode cX3_turn 43 = .ok (.iastore, 1) := by decide +kernel
theorem dX3_turn_44 : decode cX3_turn 44 = .ok (.iload_n 3, 1) := by decide +kernel
theorem dX3_turn_45 : decode cX3_turn 45 = .ok (.ireturn, 1) := by decide +kernel
theorem dX3_as_0 : decode cX3_as 0 = .ok (.aload_n 0, 1) := by decide +kernel
theorem dX3_as_1 : decode cX3_as 1 = .ok (.iload_n 1, 1) := by decide +kernel
theorem dX3_as_2 : decode cX3_as 2 = .ok (.invokevirtual 84, 3) := by decide +kernel
theorem dX3_as_5 : decode cX3_as 5 = .ok (.ifCond .eq 12, 3) := by decide +kernel
theorem dX3_as_8 : decode cX3_as 8 = .ok (.iload_n 2, 1) := by decide +kernel
theorem dX3_as_9 : decode cX3_as 9 = .ok (.iconst 0, 1) := by decide +kernel
theorem dX3_as_10 : decode cX3_as 10 = .ok (.iconst 5, 1) := by decide +kernel
theorem dX3_as_11 : decode cX3_as 11 = .ok (.invokestatic 44, 3) := by decide +kernel
theorem dX3_as_14 : decode cX3_as 14 = .ok (.ifCond .ne 10, 3) := by decide +kernel
theorem dX3_as_17 : decode cX3_as 17 = .ok (.aload_n 0, 1) := by decide +kernel
theorem dX3_as_18 : decode cX3_as 18 = .ok (.ldc 48, 2) := by decide +kernel
theorem dX3_as_20 : decode cX3_as 20 = .ok (.invokevirtual 49, 3) := by decide +kernel
theorem dX3_as_23 : decode cX3_as 23 = .ok (.ireturn, 1) := by decide +kernel
theorem dX3_as_24 : decode cX3_as 24 = .ok (.aload_n 0, 1) := by decide +kernel
theorem dX3_as_25 : decode cX3_as 25 = .ok (.getfield 12, 3) := by decide +kernel
theorem dX3_as_28 : decode cX3_as 28 = .ok (.getfield 88, 3) := by decide +kernel
theorem dX3_as_31 : decode cX3_as 31 = .ok (.iload_n 1, 1) := by decide +kernel
theorem dX3_as_32 : decode cX3_as 32 = .ok (.iaload, 1) := by decide +kernel
theorem dX3_as_33 : decode cX3_as 33 = .ok (.iload_n 2, 1) := by decide +kernel
theorem dX3_as_34 : decode cX3_as 34 = .ok (.invokestatic 110, 3) := by decide +kernel
theorem dX3_as_37 : decode cX3_as 37 = .ok (.ifCond .ne 10, 3) := by decide +kernel
theorem dX3_as_40 : decode cX3_as 40 = .ok (.aload_n 0, 1) := by decide +kernel
theorem dX3_as_41 : decode cX3_as 41 = .ok (.ldc 114, 2) := by decide +kernel
theorem dX3_as_43 : decode cX3_as 43 = .ok (.invokevirtual 49, 3) := by decide +kernel
theorem dX3_as_46 : decode cX3_as 46 = .ok (.ireturn, 1) := by decide +kernel
theorem dX3_as_47 : decode cX3_as 47 = .ok (.aload_n 0, 1) := by decide +kernel
theorem dX3_as_48 : decode cX3_as 48 = .ok (.getfield 12, 3) := by decide +kernel
theorem dX3_as_51 : decode cX3_as 51 = .ok (.getfield 91, 3) := by decide +kernel
theorem dX3_as_54 : decode cX3_as 54 = .ok (.iload_n 1, 1) := by decide +kernel
theorem dX3_as_55 : decode cX3_as 55 = .ok (.iaload, 1) := by decide +kernel
theorem dX3_as_56 : decode cX3_as 56 = .ok (.ireturn, 1) := by decide +kernel
theorem dX3_swap_0 : decode cX3_swap 0 = .ok (.aload_n 0, 1) := by decide +kernel
theorem dX3_swap_1 : decode cX3_swap 1 = .ok (.iload_n 1, 1) := by decide +kernel
theorem dX3_swap_2 : decode cX3_swap 2 = .ok (.invokevirtual 84, 3) := by decide +kernel
theorem dX3_swap_5 : decode cX3_swap 5 = .ok (.ifCond .eq 16, 3) := by decide +kernel
theorem dX3_swap_8 : decode cX3_swap 8 = .ok (.aload_n 0, 1) := by decide +kernel
theorem dX3_swap_9 : decode cX3_swap 9 = .ok (.iload_n 2, 1) := by decide +kernel
theorem dX3_swap_10 : decode cX3_swap 10 = .ok (.invokevirtual 84, 3) := by decide +kernel
theorem dX3_swap_13 : decode cX3_swap 13 = .ok (.ifCond .eq 8, 3) := by decide +kernel
theorem dX3_swap_16 : decode cX3_swap 16 = .ok (.iload_n 1, 1) := by decide +kernel
theorem dX3_swap_17 : decode cX3_swap 17 = .ok (.iload_n 2, 1) := by decide +kernel
theorem dX3_swap_18 : decode cX3_swap 18 = .ok (.if_icmp .ne 10, 3) := by decide +kernel
theorem dX3_swap_21 : decode cX3_swap 21 = .ok (.aload_n 0, 1) := by decide +kernel
theorem dX3_swap_22 : decode cX3_swap 22 = .ok (.ldc 48, 2) := by decide +kernel
theorem dX3_swap_24 : decode cX3_swap 24 = .ok (.invokevirtual 49, 3) := by decide +kernel
theorem dX3_swap_27 : decode cX3_swap 27 = .ok (.ireturn, 1) := by decide +kernel
theorem dX3_swap_28 : decode cX3_swap 28 = .ok (.aload_n 0, 1) := by decide +kernel
theorem dX3_swap_29 : decode cX3_swap 29 = .ok (.getfield 12, 3) := by decide +kernel
theorem dX3_swap_32 : decode cX3_swap 32 = .ok (.iload_n 1, 1) := by decide +kernel
theorem dX3_swap_33 : decode cX3_swap 33 = .ok (.iload_n 2, 1) := by decide +kernel
theorem dX3_swap_34 : decode cX3_swap 34 = .ok (.invokevirtual 115, 3) := by decide +kernel
theorem dX3_swap_37 : decode cX3_swap 37 = .ok (.iconst 1, 1) := by decide +kernel
theorem dX3_swap_38 : decode cX3_swap 38 = .ok (.ireturn, 1) := by decide +kernel
theorem dX3_moments_0 : decode cX3_moments 0 = .ok (.iload_n 1, 1) := by decide +kernel
theorem dX3_moments_1 : decode cX3_moments 1 = .ok (.iconst 1, 1) := by decide +kernel
theorem dX3_moments_2 : decode cX3_moments 2 = .ok (.sipush 200, 3) := by decide +kernel
theorem dX3_moments_5 : decode cX3_moments 5 = .ok (.invokestatic 44, 3) := by decide +kernel
theorem dX3_moments_8 : decode cX3_moments 8 = .ok (.ifCond .ne 10, 3) := by decide +kernel
theorem dX3_moments_11 : decode cX3_moments 11 = .ok (.aload_n 0, 1) := by decide +kernel
theorem dX3_moments_12 : decode cX3_moments 12 = .ok (.ldc 48, 2) := by decide +kernel
theorem dX3_moments_14 : decode cX3_moments 14 = .ok (.invokevirtual 49, 3) := by decide +kernel
theorem dX3_moments_17 : decode cX3_moments 17 = .ok (.ireturn, 1) := by decide +kernel
theorem dX3_moments_18 : decode cX3_moments 18 = .ok (.aload_n 0, 1) := by decide +kernel
theorem dX3_moments_19 : decode cX3_moments 19 = .ok (.getfield 12, 3) := by decide +kernel
theorem dX3_moments_22 : decode cX3_moments 22 = .ok (.getfield 59, 3) := by decide +kernel
theorem dX3_moments_25 : decode cX3_moments 25 = .ok (.aload_n 0, 1) := by decide +kernel
theorem dX3_moments_26 : decode cX3_moments 26 = .ok (.getfield 12, 3) := by decide +kernel
theorem dX3_moments_29 : decode cX3_moments 29 = .ok (.getfield 63, 3) := by decide +kernel
theorem dX3_moments_32 : decode cX3_moments 32 = .ok (.iload_n 1, 1) := by decide +kernel
theorem dX3_moments_33 : decode cX3_moments 33 = .ok (.iadd, 1) := by decide +kernel
theorem dX3_moments_34 : decode cX3_moments 34 = .ok (.bipush 16, 2) := by decide +kernel
theorem dX3_moments_36 : decode cX3_moments 36 = .ok (.idiv, 1) := by decide +kernel
theorem dX3_moments_37 : decode cX3_moments 37 = .ok (.iadd, 1) := by decide +kernel
theorem dX3_moments_38 : decode cX3_moments 38 = .ok (.sipush 9999, 3) := by decide +kernel
theorem dX3_moments_41 : decode cX3_moments 41 = .ok (.if_icmp .le 10, 3) := by decide +kernel
theorem dX3_moments_44 : decode cX3_moments 44 = .ok (.aload_n 0, 1) := by decide +kernel
theorem dX3_moments_45 : decode cX3_moments 45 = .ok (.ldc 119, 2) := by decide +kernel
theorem dX3_moments_47 : decode cX3_moments 47 = .ok (.invokevirtual 49, 3) := by decide +kernel
theorem dX3_moments_50 : decode cX3_moments 50 = .ok (.ireturn, 1) := by decide +kernel
theorem dX3_moments_51 : decode cX3_moments 51 = .ok (.aload_n 0, 1) := by decide +kernel
theorem dX3_moments_52 : decode cX3_moments 52 = .ok (.getfield 12, 3) := by decide +kernel
theorem dX3_moments_55 : decode cX3_moments 55 = .ok (.iload_n 1, 1) := by decide +kernel
theorem dX3_moments_56 : decode cX3_moments 56 = .ok (.invokevirtual 120, 3) := by decide +kernel
theorem dX3_moments_59 : decode cX3_moments 59 = .ok (.aload_n 0, 1) := by decide +kernel
theorem dX3_moments_60 : decode cX3_moments 60 = .ok (.getfield 12, 3) := by decide +kernel
theorem dX3_moments_63 : decode cX3_moments 63 = .ok (.getfield 63, 3) := by decide +kernel
theorem dX3_moments_66 : decode cX3_moments 66 = .ok (.ireturn, 1) := by decide +kernel
theorem dX3_note_0 : decode cX3_note 0 = .ok (.aload_n 0, 1) := by decide +kernel
theorem dX3_note_1 : decode cX3_note 1 = .ok (.iload_n 1, 1) := by decide +kernel
theorem dX3_note_2 : decode cX3_note 2 = .ok (.invokevirtual 84, 3) := by decide +kernel
theorem dX3_note_5 : decode cX3_note 5 = .ok (.ifCond .eq 14, 3) := by decide +kernel
theorem dX3_note_8 : decode cX3_note 8 = .ok (.iload_n 2, 1) := by decide +kernel
theorem dX3_note_9 : decode cX3_note 9 = .ok (.iconst 0, 1) := by decide +kernel
theorem dX3_note_10 : decode cX3_note 10 = .ok (.sipush 400, 3) := by decide +kernel
theorem dX3_note_13 : decode cX3_note 13 = .ok (.invokestatic 44, 3) := by decide +kernel
theorem dX3_note_16 : decode cX3_note 16 = .ok (.ifCond .ne 10, 3) := by decide +kernel
theorem dX3_note_19 : decode cX3_note 19 = .ok (.aload_n 0, 1) := by decide +kernel
theorem dX3_note_20 : decode cX3_note 20 = .ok (.ldc 48, 2) := by decide +kernel
theorem dX3_note_22 : decode cX3_note 22 = .ok (.invokevirtual 49, 3) := by decide +kernel
theorem dX3_note_25 : decode cX3_note 25 = .ok (.ireturn, 1) := by decide +kernel
theorem dX3_note_26 : decode cX3_note 26 = .ok (.aload_n 0, 1) := by decide +kernel
theorem dX3_note_27 : decode cX3_note 27 = .ok (.invokevirtual 124, 3) := by decide +kernel
theorem dX3_note_30 : decode cX3_note 30 = .ok (.aload_n 0, 1) := by decide +kernel
theorem dX3_note_31 : decode cX3_note 31 = .ok (.getfield 16, 3) := by decide +kernel
theorem dX3_note_34 : decode cX3_note 34 = .ok (.iload_n 2, 1) := by decide +kernel
theorem dX3_note_35 : decode cX3_note 35 = .ok (.invokevirtual 120, 3) := by decide +kernel
theorem dX3_note_38 : decode cX3_note 38 = .ok (.aload_n 0, 1) := by decide +kernel
theorem dX3_note_39 : decode cX3_note 39 = .ok (.getfield 16, 3) := by decide +kernel
theorem dX3_note_42 : decode cX3_note 42 = .ok (.getfield 94, 3) := by decide +kernel
theorem dX3_note_45 : decode cX3_note 45 = .ok (.iload_n 1, 1) := by decide +kernel
theorem dX3_note_46 : decode cX3_note 46 = .ok (.iaload, 1) := by decide +kernel
theorem dX3_note_47 : decode cX3_note 47 = .ok (.ireturn, 1) := by decide +kernel
theorem dX3_on_0 : decode cX3_on 0 = .ok (.aload_n 0, 1) := by decide +kernel
theorem dX3_on_1 : decode cX3_on 1 = .ok (.iload_n 1, 1) := by decide +kernel
theorem dX3_on_2 : decode cX3_on 2 = .ok (.invokevirtual 84, 3) := by decide +kernel
theorem dX3_on_5 : decode cX3_on 5 = .ok (.ifCond .eq 23, 3) := by decide +kernel
theorem dX3_on_8 : decode cX3_on 8 = .ok (.iload_n 2, 1) := by decide +kernel
theorem dX3_on_9 : decode cX3_on 9 = .ok (.iconst 0, 1) := by decide +kernel
theorem dX3_on_10 : decode cX3_on 10 = .ok (.sipush 400, 3) := by decide +kernel
theorem dX3_on_13 : decode cX3_on 13 = .ok (.invokestatic 44, 3) := by decide +kernel
theorem dX3_on_16 : decode cX3_on 16 = .ok (.ifCond .eq 12, 3) := by decide +kernel
theorem dX3_on_19 : decode cX3_on 19 = .ok (.iload_n 3, 1) := by decide +kernel
theorem dX3_on_20 : decode cX3_on 20 = .ok (.iconst 0, 1) := by decide +kernel
theorem dX3_on_21 : decode cX3_on 21 = .ok (.iconst 1, 1) := by decide +kernel
theorem dX3_on_22 : decode cX3_on 22 = .ok (.invokestatic 44, 3) := by decide +kernel
theorem dX3_on_25 : decode cX3_on 25 = .ok (.ifCond .ne 10, 3) := by decide +kernel
theorem dX3_on_28 : decode cX3_on 28 = .ok (.aload_n 0, 1) := by decide +kernel
theorem dX3_on_29 : decode cX3_on 29 = .ok (.ldc 48, 2) := by decide +kernel
theorem dX3_on_31 : decode cX3_on 31 = .ok (.invokevirtual 49, 3) := by decide +kernel
theorem dX3_on_34 : decode cX3_on 34 = .ok (.ireturn, 1) := by decide +kernel
theorem dX3_on_35 : decode cX3_on 35 = .ok (.aload_n 0, 1) := by decide +kernel
theorem dX3_on_36 : decode cX3_on 36 = .ok (.invokevirtual 124, 3) := by decide +kernel
theorem dX3_on_39 : decode cX3_on 39 = .ok (.aload_n 0, 1) := by decide +kernel
theorem dX3_on_40 : decode cX3_on 40 = .ok (.getfield 16, 3) := by decide +kernel
theorem dX3_on_43 : decode cX3_on 43 = .ok (.iload_n 2, 1) := by decide +kernel
theorem dX3_on_44 : decode cX3_on 44 = .ok (.invokevirtual 120, 3) := by decide +kernel
theorem dX3_on_47 : decode cX3_on 47 = .ok (.iload_n 3, 1) := by decide +kernel
theorem dX3_on_48 : decode cX3_on 48 = .ok (.ifCond .ne 15, 3) := by decide +kernel
theorem dX3_on_51 : decode cX3_on 51 = .ok (.aload_n 0, 1) := by decide +kernel
theorem dX3_on_52 : decode cX3_on 52 = .ok (.getfield 16, 3) := by decide +kernel
theorem dX3_on_55 : decode cX3_on 55 = .ok (.getfield 91, 3) := by decide +kernel
theorem dX3_on_58 : decode cX3_on 58 = .ok (.iload_n 1, 1) := by decide +kernel
theorem dX3_on_59 : decode cX3_on 59 = .ok (.iaload, 1) := by decide +kernel
theorem dX3_on_60 : decode cX3_on 60 = .ok (.goto 12, 3) := by decide +kernel
theorem dX3_on_63 : decode cX3_on 63 = .ok (.aload_n 0, 1) := by decide +kernel
theorem dX3_on_64 : decode cX3_on 64 = .ok (.getfield 16, 3) := by decide +kernel
theorem dX3_on_67 : decode cX3_on 67 = .ok (.getfield 97, 3) := by decide +kernel
theorem dX3_on_70 : decode cX3_on 70 = .ok (.iload_n 1, 1) := by decide +kernel
theorem dX3_on_71 : decode cX3_on 71 = .ok (.iaload, 1) := by decide +kernel
theorem dX3_on_72 : decode cX3_on 72 = .ok (.ireturn, 1) := by decide +kernel
theorem dX3_house_0 : decode cX3_house 0 = .ok (.iload_n 1, 1) := by decide +kernel
theorem dX3_house_1 : decode cX3_house 1 = .ok (.iconst 0, 1) := by decide +kernel
theorem dX3_house_2 : decode cX3_house 2 = .ok (.sipush 400, 3) := by decide +kernel
theorem dX3_house_5 : decode cX3_house 5 = .ok (.invokestatic 44, 3) := by decide +kernel
theorem dX3_house_8 : decode cX3_house 8 = .ok (.ifCond .ne 10, 3) := by decide +kernel
theorem dX3_house_11 : decode cX3_house 11 = .ok (.aload_n 0, 1) := by decide +kernel
theorem dX3_house_12 : decode cX3_house 12 = .ok (.ldc 48, 2) := by decide +kernel
theorem dX3_house_14 : decode cX3_house 14 = .ok (.invokevirtual 49, 3) := by decide +kernel
theorem dX3_house_17 : decode cX3_house 17 = .ok (.ireturn, 1) := by decide +kernel
theorem dX3_house_18 : decode cX3_house 18 = .ok (.aload_n 0, 1) := by decide +kernel
theorem dX3_house_19 : decode cX3_house 19 = .ok (.invokevirtual 124, 3) := by decide +kernel
theorem dX3_house_22 : decode cX3_house 22 = .ok (.aload_n 0, 1) := by decide +kernel
theorem dX3_house_23 : decode cX3_house 23 = .ok (.getfield 16, 3) := by decide +kernel
theorem dX3_house_26 : decode cX3_house 26 = .ok (.iload_n 1, 1) := by decide +kernel
theorem dX3_house_27 : decode cX3_house 27 = .ok (.invokevirtual 127, 3) := by decide +kernel
theorem dX3_house_30 : decode cX3_house 30 = .ok (.ireturn, 1) := by decide +kernel
theorem dX3_heard_0 : decode cX3_heard 0 = .ok (.iload_n 1, 1) := by decide +kernel
theorem dX3_heard_1 : decode cX3_heard 1 = .ok (.iconst 1, 1) := by decide +kernel
theorem dX3_heard_2 : decode cX3_heard 2 = .ok (.sipush 400, 3) := by decide +kernel
theorem dX3_heard_5 : decode cX3_heard 5 = .ok (.invokestatic 44, 3) := by decide +kernel
theorem dX3_heard_8 : decode cX3_heard 8 = .ok (.ifCond .eq 12, 3) := by decide +kernel
theorem dX3_heard_11 : decode cX3_heard 11 = .ok (.iload_n 2, 1) := by decide +kernel
theorem dX3_heard_12 : decode cX3_heard 12 = .ok (.iconst 0, 1) := by decide +kernel
theorem dX3_heard_13 : decode cX3_heard 13 = .ok (.iconst 4, 1) := by decide +kernel
theorem dX3_heard_14 : decode cX3_heard 14 = .ok (.invokestatic 44, 3) := by decide +kernel
theorem dX3_heard_17 : decode cX3_heard 17 = .ok (.ifCond .ne 10, 3) := by decide +kernel
theorem dX3_heard_20 : decode cX3_heard 20 = .ok (.aload_n 0, 1) := by decide +kernel
theorem dX3_heard_21 : decode cX3_heard 21 = .ok (.ldc 48, 2) := by decide +kernel
theorem dX3_heard_23 : decode cX3_heard 23 = .ok (.invokevirtual 49, 3) := by decide +kernel
theorem dX3_heard_26 : decode cX3_heard 26 = .ok (.ireturn, 1) := by decide +kernel
theorem dX3_heard_27 : decode cX3_heard 27 = .ok (.aload_n 0, 1) := by decide +kernel
theorem dX3_heard_28 : decode cX3_heard 28 = .ok (.invokevirtual 124, 3) := by decide +kernel
theorem dX3_heard_31 : decode cX3_heard 31 = .ok (.aload_n 0, 1) := by decide +kernel
theorem dX3_heard_32 : decode cX3_heard 32 = .ok (.getfield 16, 3) := by decide +kernel
theorem dX3_heard_35 : decode cX3_heard 35 = .ok (.iload_n 1, 1) := by decide +kernel
theorem dX3_heard_36 : decode cX3_heard 36 = .ok (.iconst 1, 1) := by decide +kernel
theorem dX3_heard_37 : decode cX3_heard 37 = .ok (.isub, 1) := by decide +kernel
theorem dX3_heard_38 : decode cX3_heard 38 = .ok (.invokevirtual 120, 3) := by decide +kernel
theorem dX3_heard_41 : decode cX3_heard 41 = .ok (.aload_n 0, 1) := by decide +kernel
theorem dX3_heard_42 : decode cX3_heard 42 = .ok (.getfield 16, 3) := by decide +kernel
theorem dX3_heard_45 : decode cX3_heard 45 = .ok (.iload_n 2, 1) := by decide +kernel
theorem dX3_heard_46 : decode cX3_heard 46 = .ok (.invokevirtual 130, 3) := by decide +kernel
theorem dX3_heard_49 : decode cX3_heard 49 = .ok (.ireturn, 1) := by decide +kernel
theorem dX3_does_0 : decode cX3_does 0 = .ok (.aload_n 0, 1) := by decide +kernel
theorem dX3_does_1 : decode cX3_does 1 = .ok (.iload_n 1, 1) := by decide +kernel
theorem dX3_does_2 : decode cX3_does 2 = .ok (.invokevirtual 84, 3) := by decide +kernel
theorem dX3_does_5 : decode cX3_does 5 = .ok (.ifCond .eq 12, 3) := by decide +kernel
theorem dX3_does_8 : decode cX3_does 8 = .ok (.iload_n 2, 1) := by decide +kernel
theorem dX3_does_9 : decode cX3_does 9 = .ok (.iconst 0, 1) := by decide +kernel
theorem dX3_does_10 : decode cX3_does 10 = .ok (.iconst 4, 1) := by decide +kernel
theorem dX3_does_11 : decode cX3_does 11 = .ok (.invokestatic 44, 3) := by decide +kernel
theorem dX3_does_14 : decode cX3_does 14 = .ok (.ifCond .ne 10, 3) := by decide +kernel
theorem dX3_does_17 : decode cX3_does 17 = .ok (.aload_n 0, 1) := by decide +kernel
theorem dX3_does_18 : decode cX3_does 18 = .ok (.ldc 48, 2) := by decide +kernel
theorem dX3_does_20 : decode cX3_does 20 = .ok (.invokevirtual 49, 3) := by decide +kernel
theorem dX3_does_23 : decode cX3_does 23 = .ok (.ireturn, 1) := by decide +kernel
theorem dX3_does_24 : decode cX3_does 24 = .ok (.aload_n 0, 1) := by decide +kernel
theorem dX3_does_25 : decode cX3_does 25 = .ok (.invokevirtual 124, 3) := by decide +kernel
theorem dX3_does_28 : decode cX3_does 28 = .ok (.iconst 1, 1) := by decide +kernel
theorem dX3_does_29 : decode cX3_does 29 = .ok (.istore_n 3, 1) := by decide +kernel
theorem dX3_does_30 : decode cX3_does 30 = .ok (.iload_n 3, 1) := by decide +kernel
theorem dX3_does_31 : decode cX3_does 31 = .ok (.sipush 400, 3) := by decide +kernel
theorem dX3_does_34 : decode cX3_does 34 = .ok (.if_icmp .gt 30, 3) := by decide +kernel
theorem dX3_does_37 : decode cX3_does 37 = .ok (.aload_n 0, 1) := by decide +kernel
theorem dX3_does_38 : decode cX3_does 38 = .ok (.getfield 16, 3) := by decide +kernel
theorem dX3_does_41 : decode cX3_does 41 = .ok (.iload_n 1, 1) := by decide +kernel
theorem dX3_does_42 : decode cX3_does 42 = .ok (.invokevirtual 100, 3) := by decide +kernel
theorem dX3_does_45 : decode cX3_does 45 = .ok (.iload_n 2, 1) := by decide +kernel
theorem dX3_does_46 : decode cX3_does 46 = .ok (.if_icmp .ne 5, 3) := by decide +kernel
theorem dX3_does_49 : decode cX3_does 49 = .ok (.iload_n 3, 1) := by decide +kernel
theorem dX3_does_50 : decode cX3_does 50 = .ok (.ireturn, 1) := by decide +kernel
theorem dX3_does_51 : decode cX3_does 51 = .ok (.aload_n 0, 1) := by decide +kernel
theorem dX3_does_52 : decode cX3_does 52 = .ok (.getfield 16, 3) := by decide +kernel
theorem dX3_does_55 : decode cX3_does 55 = .ok (.invokevirtual 133, 3) := by decide +kernel
theorem dX3_does_58 : decode cX3_does 58 = .ok (.iinc 3 1, 3) := by decide +kernel
theorem dX3_does_61 : decode cX3_does 61 = .ok (.goto (-31), 3) := by decide +kernel
theorem dX3_does_64 : decode cX3_does 64 = .ok (.aload_n 0, 1) := by decide +kernel
theorem dX3_does_65 : decode cX3_does 65 = .ok (.ldc 136, 2) := by decide +kernel
theorem dX3_does_67 : decode cX3_does 67 = .ok (.invokevirtual 49, 3) := by decide +kernel
theorem dX3_does_70 : decode cX3_does 70 = .ok (.ireturn, 1) := by decide +kernel
theorem dX3_comes_0 : decode cX3_comes 0 = .ok (.aload_n 0, 1) := by decide +kernel
theorem dX3_comes_1 : decode cX3_comes 1 = .ok (.iload_n 1, 1) := by decide +kernel
theorem dX3_comes_2 : decode cX3_comes 2 = .ok (.invokevirtual 84, 3) := by decide +kernel
theorem dX3_comes_5 : decode cX3_comes 5 = .ok (.ifCond .eq 16, 3) := by decide +kernel
theorem dX3_comes_8 : decode cX3_comes 8 = .ok (.iload_n 2, 1) := by decide +kernel
theorem dX3_comes_9 : decode cX3_comes 9 = .ok (.sipush (-9999), 3) := by decide +kernel
theorem dX3_comes_12 : decode cX3_comes 12 = .ok (.sipush 9999, 3) := by decide +kernel
theorem dX3_comes_15 : decode cX3_comes 15 = .ok (.invokestatic 44, 3) := by decide +kernel
theorem dX3_comes_18 : decode cX3_comes 18 = .ok (.ifCond .ne 10, 3) := by decide +kernel
theorem dX3_comes_21 : decode cX3_comes 21 = .ok (.aload_n 0, 1) := by decide +kernel
theorem dX3_comes_22 : decode cX3_comes 22 = .ok (.ldc 48, 2) := by decide +kernel
theorem dX3_comes_24 : decode cX3_comes 24 = .ok (.invokevirtual 49, 3) := by decide +kernel
theorem dX3_comes_27 : decode cX3_comes 27 = .ok (.ireturn, 1) := by decide +kernel
theorem dX3_comes_28 : decode cX3_comes 28 = .ok (.aload_n 0, 1) := by decide +kernel
theorem dX3_comes_29 : decode cX3_comes 29 = .ok (.invokevirtual 124, 3) := by decide +kernel
theorem dX3_comes_32 : decode cX3_comes 32 = .ok (.iconst 0, 1) := by decide +kernel
theorem dX3_comes_33 : decode cX3_comes 33 = .ok (.istore_n 3, 1) := by decide +kernel
theorem dX3_comes_34 : decode cX3_comes 34 = .ok (.iload_n 3, 1) := by decide +kernel
theorem dX3_comes_35 : decode cX3_comes 35 = .ok (.sipush 400, 3) := by decide +kernel
theorem dX3_comes_38 : decode cX3_comes 38 = .ok (.if_icmp .gt 31, 3) := by decide +kernel
theorem dX3_comes_41 : decode cX3_comes 41 = .ok (.aload_n 0, 1) := by decide +kernel
theorem dX3_comes_42 : decode cX3_comes 42 = .ok (.getfield 16, 3) := by decide +kernel
theorem dX3_comes_45 : decode cX3_comes 45 = .ok (.getfield 94, 3) := by decide +kernel
theorem dX3_comes_48 : decode cX3_comes 48 = .ok (.iload_n 1, 1) := by decide +kernel
theorem dX3_comes_49 : decode cX3_comes 49 = .ok (.iaload, 1) := by decide +kernel
theorem dX3_comes_50 : decode cX3_comes 50 = .ok (.iload_n 2, 1) := by decide +kernel
theorem dX3_comes_51 : decode cX3_comes 51 = .ok (.if_icmp .lt 5, 3) := by decide +kernel
theorem dX3_comes_54 : decode cX3_comes 54 = .ok (.iload_n 3, 1) := by decide +kernel
theorem dX3_comes_55 : decode cX3_comes 55 = .ok (.ireturn, 1) := by decide +kernel
theorem dX3_comes_56 : decode cX3_comes 56 = .ok (.aload_n 0, 1) := by decide +kernel
theorem dX3_comes_57 : decode cX3_comes 57 = .ok (.getfield 16, 3) := by decide +kernel
theorem dX3_comes_60 : decode cX3_comes 60 = .ok (.invokevirtual 133, 3) := by decide +kernel
theorem dX3_comes_63 : decode cX3_comes 63 = .ok (.iinc 3 1, 3) := by decide +kernel
theorem dX3_comes_66 : decode cX3_comes 66 = .ok (.goto (-32), 3) := by decide +kernel
theorem dX3_comes_69 : decode cX3_comes 69 = .ok (.aload_n 0, 1) := by decide +kernel
theorem dX3_comes_70 : decode cX3_comes 70 = .ok (.ldc 136, 2) := by decide +kernel
theorem dX3_comes_72 : decode cX3_comes 72 = .ok (.invokevirtual 49, 3) := by decide +kernel
theorem dX3_comes_75 : decode cX3_comes 75 = .ok (.ireturn, 1) := by decide +kernel
theorem dX3_place_0 : decode cX3_place 0 = .ok (.aload_n 0, 1) := by decide +kernel
theorem dX3_place_1 : decode cX3_place 1 = .ok (.iload_n 1, 1) := by decide +kernel
theorem dX3_place_2 : decode cX3_place 2 = .ok (.invokevirtual 84, 3) := by decide +kernel
theorem dX3_place_5 : decode cX3_place 5 = .ok (.ifCond .eq 13, 3) := by decide +kernel
theorem dX3_place_8 : decode cX3_place 8 = .ok (.iload_n 2, 1) := by decide +kernel
theorem dX3_place_9 : decode cX3_place 9 = .ok (.iconst 1, 1) := by decide +kernel
theorem dX3_place_10 : decode cX3_place 10 = .ok (.bipush 100, 2) := by decide +kernel
theorem dX3_place_12 : decode cX3_place 12 = .ok (.invokestatic 44, 3) := by decide +kernel
theorem dX3_place_15 : decode cX3_place 15 = .ok (.ifCond .ne 10, 3) := by decide +kernel
theorem dX3_place_18 : decode cX3_place 18 = .ok (.aload_n 0, 1) := by decide +kernel
theorem dX3_place_19 : decode cX3_place 19 = .ok (.ldc 48, 2) := by decide +kernel
theorem dX3_place_21 : decode cX3_place 21 = .ok (.invokevirtual 49, 3) := by decide +kernel
theorem dX3_place_24 : decode cX3_place 24 = .ok (.ireturn, 1) := by decide +kernel
theorem dX3_place_25 : decode cX3_place 25 = .ok (.aload_n 0, 1) := by decide +kernel
theorem dX3_place_26 : decode cX3_place 26 = .ok (.invokevirtual 124, 3) := by decide +kernel
theorem dX3_place_29 : decode cX3_place 29 = .ok (.aload_n 0, 1) := by decide +kernel
theorem dX3_place_30 : decode cX3_place 30 = .ok (.getfield 16, 3) := by decide +kernel
theorem dX3_place_33 : decode cX3_place 33 = .ok (.iload_n 2, 1) := by decide +kernel
theorem dX3_place_34 : decode cX3_place 34 = .ok (.invokevirtual 127, 3) := by decide +kernel
theorem dX3_place_37 : decode cX3_place 37 = .ok (.istore_n 3, 1) := by decide +kernel
theorem dX3_place_38 : decode cX3_place 38 = .ok (.iconst (-1), 1) := by decide +kernel
theorem dX3_place_39 : decode cX3_place 39 = .ok (.istore 4, 2) := by decide +kernel
theorem dX3_place_41 : decode cX3_place 41 = .ok (.iconst 0, 1) := by decide +kernel
theorem dX3_place_42 : decode cX3_place 42 = .ok (.istore 5, 2) := by decide +kernel
theorem dX3_place_44 : decode cX3_place 44 = .ok (.iload 5, 2) := by decide +kernel
theorem dX3_place_46 : decode cX3_place 46 = .ok (.aload_n 0, 1) := by decide +kernel
theorem dX3_place_47 : decode cX3_place 47 = .ok (.getfield 12, 3) := by decide +kernel
theorem dX3_place_50 : decode cX3_place 50 = .ok (.getfield 76, 3) := by decide +kernel
theorem dX3_place_53 : decode cX3_place 53 = .ok (.if_icmp .ge 55, 3) := by decide +kernel
theorem dX3_place_56 : decode cX3_place 56 = .ok (.iload 5, 2) := by decide +kernel
theorem dX3_place_58 : decode cX3_place 58 = .ok (.iload_n 1, 1) := by decide +kernel
theorem dX3_place_59 : decode cX3_place 59 = .ok (.if_icmp .ne 6, 3) := by decide +kernel
theorem dX3_place_62 : decode cX3_place 62 = .ok (.goto 40, 3) := by decide +kernel
theorem dX3_place_65 : decode cX3_place 65 = .ok (.aload_n 0, 1) := by decide +kernel
theorem dX3_place_66 : decode cX3_place 66 = .ok (.invokevirtual 124, 3) := by decide +kernel
theorem dX3_place_69 : decode cX3_place 69 = .ok (.aload_n 0, 1) := by decide +kernel
theorem dX3_place_70 : decode cX3_place 70 = .ok (.getfield 16, 3) := by decide +kernel
theorem dX3_place_73 : decode cX3_place 73 = .ok (.iload_n 1, 1) := by decide +kernel
theorem dX3_place_74 : decode cX3_place 74 = .ok (.iload 5, 2) := by decide +kernel
theorem dX3_place_76 : decode cX3_place 76 = .ok (.invokevirtual 115, 3) := by decide +kernel
theorem dX3_place_79 : decode cX3_place 79 = .ok (.aload_n 0, 1) := by decide +kernel
theorem dX3_place_80 : decode cX3_place 80 = .ok (.getfield 16, 3) := by decide +kernel
theorem dX3_place_83 : decode cX3_place 83 = .ok (.iload_n 2, 1) := by decide +kernel
theorem dX3_place_84 : decode cX3_place 84 = .ok (.invokevirtual 127, 3) := by decide +kernel
theorem dX3_place_87 : decode cX3_place 87 = .ok (.istore 6, 2) := by decide +kernel
theorem dX3_place_89 : decode cX3_place 89 = .ok (.iload 6, 2) := by decide +kernel
theorem dX3_place_91 : decode cX3_place 91 = .ok (.iload_n 3, 1) := by decide +kernel
theorem dX3_place_92 : decode cX3_place 92 = .ok (.if_icmp .le 10, 3) := by decide +kernel
theorem dX3_place_95 : decode cX3_place 95 = .ok (.iload 6, 2) := by decide +kernel
theorem dX3_place_97 : decode cX3_place 97 = .ok (.istore_n 3, 1) := by decide +kernel
theorem dX3_place_98 : decode cX3_place 98 = .ok (.iload 5, 2) := by decide +kernel
theorem dX3_place_100 : decode cX3_place 100 = .ok (.istore 4, 2) := by decide +kernel
theorem dX3_place_102 : decode cX3_place 102 = .ok (.iinc 5 1, 3) := by decide +kernel
theorem dX3_place_105 : decode cX3_place 105 = .ok (.goto (-61), 3) := by decide +kernel
theorem dX3_place_108 : decode cX3_place 108 = .ok (.iload 4, 2) := by decide +kernel
theorem dX3_place_110 : decode cX3_place 110 = .ok (.ifCond .ge 12, 3) := by decide +kernel
theorem dX3_place_113 : decode cX3_place 113 = .ok (.aload_n 0, 1) := by decide +kernel
theorem dX3_place_114 : decode cX3_place 114 = .ok (.ldc 136, 2) := by decide +kernel
theorem dX3_place_116 : decode cX3_place 116 = .ok (.invokevirtual 49, 3) := by decide +kernel
theorem dX3_place_119 : decode cX3_place 119 = .ok (.goto 5, 3) := by decide +kernel
theorem dX3_place_122 : decode cX3_place 122 = .ok (.iload 4, 2) := by decide +kernel
theorem dX3_place_124 : decode cX3_place 124 = .ok (.ireturn, 1) := by decide +kernel
theorem dX3_kind_0 : decode cX3_kind 0 = .ok (.aload_n 0, 1) := by decide +kernel
theorem dX3_kind_1 : decode cX3_kind 1 = .ok (.iload_n 1, 1) := by decide +kernel
theorem dX3_kind_2 : decode cX3_kind 2 = .ok (.invokevirtual 84, 3) := by decide +kernel
theorem dX3_kind_5 : decode cX3_kind 5 = .ok (.ifCond .eq 13, 3) := by decide +kernel
theorem dX3_kind_8 : decode cX3_kind 8 = .ok (.iload_n 2, 1) := by decide +kernel
theorem dX3_kind_9 : decode cX3_kind 9 = .ok (.iconst 1, 1) := by decide +kernel
theorem dX3_kind_10 : decode cX3_kind 10 = .ok (.bipush 100, 2) := by decide +kernel
theorem dX3_kind_12 : decode cX3_kind 12 = .ok (.invokestatic 44, 3) := by decide +kernel
theorem dX3_kind_15 : decode cX3_kind 15 = .ok (.ifCond .ne 10, 3) := by decide +kernel
theorem dX3_kind_18 : decode cX3_kind 18 = .ok (.aload_n 0, 1) := by decide +kernel
theorem dX3_kind_19 : decode cX3_kind 19 = .ok (.ldc 48, 2) := by decide +kernel
theorem dX3_kind_21 : decode cX3_kind 21 = .ok (.invokevirtual 49, 3) := by decide +kernel
theorem dX3_kind_24 : decode cX3_kind 24 = .ok (.ireturn, 1) := by decide +kernel
theorem dX3_kind_25 : decode cX3_kind 25 = .ok (.sipush (-10000), 3) := by decide +kernel
theorem dX3_kind_28 : decode cX3_kind 28 = .ok (.istore_n 3, 1) := by decide +kernel
theorem dX3_kind_29 : decode cX3_kind 29 = .ok (.iconst 0, 1) := by decide +kernel
theorem dX3_kind_30 : decode cX3_kind 30 = .ok (.istore 4, 2) := by decide +kernel
theorem dX3_kind_32 : decode cX3_kind 32 = .ok (.iconst 0, 1) := by decide +kernel
theorem dX3_kind_33 : decode cX3_kind 33 = .ok (.istore 5, 2) := by decide +kernel
theorem dX3_kind_35 : decode cX3_kind 35 = .ok (.iload 5, 2) := by decide +kernel
theorem dX3_kind_37 : decode cX3_kind 37 = .ok (.bipush 6, 2) := by decide +kernel
theorem dX3_kind_39 : decode cX3_kind 39 = .ok (.if_icmp .ge 59, 3) := by decide +kernel
theorem dX3_kind_42 : decode cX3_kind 42 = .ok (.aload_n 0, 1) := by decide +kernel
theorem dX3_kind_43 : decode cX3_kind 43 = .ok (.invokevirtual 124, 3) := by decide +kernel
theorem dX3_kind_46 : decode cX3_kind 46 = .ok (.aload_n 0, 1) := by decide +kernel
theorem dX3_kind_47 : decode cX3_kind 47 = .ok (.getfield 16, 3) := by decide +kernel
theorem dX3_kind_50 : decode cX3_kind 50 = .ok (.getfield 88, 3) := by decide +kernel
theorem dX3_kind_53 : decode cX3_kind 53 = .ok (.iload_n 1, 1) := by decide +kernel
theorem dX3_kind_54 : decode cX3_kind 54 = .ok (.iload 5, 2) := by decide +kernel
theorem dX3_kind_56 : decode cX3_kind 56 = .ok (.iastore, 1) := by decide +kernel
theorem dX3_kind_57 : decode cX3_kind 57 = .ok (.aload_n 0, 1) := by decide +kernel
theorem dX3_kind_58 : decode cX3_kind 58 = .ok (.getfield 16, 3) := by decide +kernel
theorem dX3_kind_61 : decode cX3_kind 61 = .ok (.iload_n 2, 1) := by decide +kernel
theorem dX3_kind_62 : decode cX3_kind 62 = .ok (.invokevirtual 120, 3) := by decide +kernel
theorem dX3_kind_65 : decode cX3_kind 65 = .ok (.aload_n 0, 1) := by decide +kernel
theorem dX3_kind_66 : decode cX3_kind 66 = .ok (.getfield 16, 3) := by decide +kernel
theorem dX3_kind_69 : decode cX3_kind 69 = .ok (.getfield 94, 3) := by decide +kernel
theorem dX3_kind_72 : decode cX3_kind 72 = .ok (.iload_n 1, 1) := by decide +kernel
theorem dX3_kind_73 : decode cX3_kind 73 = .ok (.iaload, 1) := by decide +kernel
theorem dX3_kind_74 : decode cX3_kind 74 = .ok (.iload_n 3, 1) := by decide +kernel
theorem dX3_kind_75 : decode cX3_kind 75 = .ok (.if_icmp .le 17, 3) := by decide +kernel
theorem dX3_kind_78 : decode cX3_kind 78 = .ok (.aload_n 0, 1) := by decide +kernel
theorem dX3_kind_79 : decode cX3_kind 79 = .ok (.getfield 16, 3) := by decide +kernel
theorem dX3_kind_82 : decode cX3_kind 82 = .ok (.getfield 94, 3) := by decide +kernel
theorem dX3_kind_85 : decode cX3_kind 85 = .ok (.iload_n 1, 1) := by decide +kernel
theorem dX3_kind_86 : decode cX3_kind 86 = .ok (.iaload, 1) := by decide +kernel
theorem dX3_kind_87 : decode cX3_kind 87 = .ok (.istore_n 3, 1) := by decide +kernel
theorem dX3_kind_88 : decode cX3_kind 88 = .ok (.iload 5, 2) := by decide +kernel
theorem dX3_kind_90 : decode cX3_kind 90 = .ok (.istore 4, 2) := by decide +kernel
theorem dX3_kind_92 : decode cX3_kind 92 = .ok (.iinc 5 1, 3) := by decide +kernel
theorem dX3_kind_95 : decode cX3_kind 95 = .ok (.goto (-60), 3) := by decide +kernel
theorem dX3_kind_98 : decode cX3_kind 98 = .ok (.iload 4, 2) := by decide +kernel
theorem dX3_kind_100 : decode cX3_kind 100 = .ok (.ireturn, 1) := by decide +kernel
theorem dX3_fresh_0 : decode cX3_fresh 0 = .ok (.aload_n 0, 1) := by decide +kernel
theorem dX3_fresh_1 : decode cX3_fresh 1 = .ok (.iload_n 1, 1) := by decide +kernel
theorem dX3_fresh_2 : decode cX3_fresh 2 = .ok (.invokevirtual 84, 3) := by decide +kernel
theorem dX3_fresh_5 : decode cX3_fresh 5 = .ok (.ifCond .eq 26, 3) := by decide +kernel
theorem dX3_fresh_8 : decode cX3_fresh 8 = .ok (.iload_n 2, 1) := by decide +kernel
theorem dX3_fresh_9 : decode cX3_fresh 9 = .ok (.iconst 1, 1) := by decide +kernel
theorem dX3_fresh_10 : decode cX3_fresh 10 = .ok (.bipush 100, 2) := by decide +kernel
theorem dX3_fresh_12 : decode cX3_fresh 12 = .ok (.invokestatic 44, 3) := by decide +kernel
theorem dX3_fresh_15 : decode cX3_fresh 15 = .ok (.ifCond .eq 16, 3) := by decide +kernel
theorem dX3_fresh_18 : decode cX3_fresh 18 = .ok (.iload_n 3, 1) := by decide +kernel
theorem dX3_fresh_19 : decode cX3_fresh 19 = .ok (.sipush (-9999), 3) := by decide +kernel
theorem dX3_fresh_22 : decode cX3_fresh 22 = .ok (.sipush 9999, 3) := by decide +kernel
theorem dX3_fresh_25 : decode cX3_fresh 25 = .ok (.invokestatic 44, 3) := by decide +kernel
theorem dX3_fresh_28 : decode cX3_fresh 28 = .ok (.ifCond .ne 10, 3) := by decide +kernel
theorem dX3_fresh_31 : decode cX3_fresh 31 = .ok (.aload_n 0, 1) := by decide +kernel
theorem dX3_fresh_32 : decode cX3_fresh 32 = .ok (.ldc 48, 2) := by decide +kernel
theorem dX3_fresh_34 : decode cX3_fresh 34 = .ok (.invokevirtual 49, 3) := by decide +kernel
theorem dX3_fresh_37 : decode cX3_fresh 37 = .ok (.ireturn, 1) := by decide +kernel
theorem dX3_fresh_38 : decode cX3_fresh 38 = .ok (.iconst 0, 1) := by decide +kernel
theorem dX3_fresh_39 : decode cX3_fresh 39 = .ok (.istore 4, 2) := by decide +kernel
theorem dX3_fresh_41 : decode cX3_fresh 41 = .ok (.iload 4, 2) := by decide +kernel
theorem dX3_fresh_43 : decode cX3_fresh 43 = .ok (.bipush 99, 2) := by decide +kernel
theorem dX3_fresh_45 : decode cX3_fresh 45 = .ok (.if_icmp .gt 48, 3) := by decide +kernel
theorem dX3_fresh_48 : decode cX3_fresh 48 = .ok (.aload_n 0, 1) := by decide +kernel
theorem dX3_fresh_49 : decode cX3_fresh 49 = .ok (.invokevirtual 124, 3) := by decide +kernel
theorem dX3_fresh_52 : decode cX3_fresh 52 = .ok (.aload_n 0, 1) := by decide +kernel
theorem dX3_fresh_53 : decode cX3_fresh 53 = .ok (.getfield 16, 3) := by decide +kernel
theorem dX3_fresh_56 : decode cX3_fresh 56 = .ok (.getfield 91, 3) := by decide +kernel
theorem dX3_fresh_59 : decode cX3_fresh 59 = .ok (.iload_n 1, 1) := by decide +kernel
theorem dX3_fresh_60 : decode cX3_fresh 60 = .ok (.iload 4, 2) := by decide +kernel
theorem dX3_fresh_62 : decode cX3_fresh 62 = .ok (.iastore, 1) := by decide +kernel
theorem dX3_fresh_63 : decode cX3_fresh 63 = .ok (.aload_n 0, 1) := by decide +kernel
theorem dX3_fresh_64 : decode cX3_fresh 64 = .ok (.getfield 16, 3) := by decide +kernel
theorem dX3_fresh_67 : decode cX3_fresh 67 = .ok (.iload_n 2, 1) := by decide +kernel
theorem dX3_fresh_68 : decode cX3_fresh 68 = .ok (.invokevirtual 120, 3) := by decide +kernel
theorem dX3_fresh_71 : decode cX3_fresh 71 = .ok (.aload_n 0, 1) := by decide +kernel
theorem dX3_fresh_72 : decode cX3_fresh 72 = .ok (.getfield 16, 3) := by decide +kernel
theorem dX3_fresh_75 : decode cX3_fresh 75 = .ok (.getfield 94, 3) := by decide +kernel
theorem dX3_fresh_78 : decode cX3_fresh 78 = .ok (.iload_n 1, 1) := by decide +kernel
theorem dX3_fresh_79 : decode cX3_fresh 79 = .ok (.iaload, 1) := by decide +kernel
theorem dX3_fresh_80 : decode cX3_fresh 80 = .ok (.iload_n 3, 1) := by decide +kernel
theorem dX3_fresh_81 : decode cX3_fresh 81 = .ok (.if_icmp .lt 6, 3) := by decide +kernel
theorem dX3_fresh_84 : decode cX3_fresh 84 = .ok (.iload 4, 2) := by decide +kernel
theorem dX3_fresh_86 : decode cX3_fresh 86 = .ok (.ireturn, 1) := by decide +kernel
theorem dX3_fresh_87 : decode cX3_fresh 87 = .ok (.iinc 4 1, 3) := by decide +kernel
theorem dX3_fresh_90 : decode cX3_fresh 90 = .ok (.goto (-49), 3) := by decide +kernel
theorem dX3_fresh_93 : decode cX3_fresh 93 = .ok (.aload_n 0, 1) := by decide +kernel
theorem dX3_fresh_94 : decode cX3_fresh 94 = .ok (.ldc 136, 2) := by decide +kernel
theorem dX3_fresh_96 : decode cX3_fresh 96 = .ok (.invokevirtual 49, 3) := by decide +kernel
theorem dX3_fresh_99 : decode cX3_fresh 99 = .ok (.ireturn, 1) := by decide +kernel
theorem dX3_cue_0 : decode cX3_cue 0 = .ok (.iload_n 1, 1) := by decide +kernel
theorem dX3_cue_1 : decode cX3_cue 1 = .ok (.iconst 1, 1) := by decide +kernel
theorem dX3_cue_2 : decode cX3_cue 2 = .ok (.bipush 60, 2) := by decide +kernel
theorem dX3_cue_4 : decode cX3_cue 4 = .ok (.invokestatic 44, 3) := by decide +kernel
theorem dX3_cue_7 : decode cX3_cue 7 = .ok (.ifCond .ne 10, 3) := by decide +kernel
theorem dX3_cue_10 : decode cX3_cue 10 = .ok (.aload_n 0, 1) := by decide +kernel
theorem dX3_cue_11 : decode cX3_cue 11 = .ok (.ldc 48, 2) := by decide +kernel
theorem dX3_cue_13 : decode cX3_cue 13 = .ok (.invokevirtual 49, 3) := by decide +kernel
theorem dX3_cue_16 : decode cX3_cue 16 = .ok (.ireturn, 1) := by decide +kernel
theorem dX3_cue_17 : decode cX3_cue 17 = .ok (.ldc 137, 2) := by decide +kernel
theorem dX3_cue_19 : decode cX3_cue 19 = .ok (.istore_n 2, 1) := by decide +kernel
theorem dX3_cue_20 : decode cX3_cue 20 = .ok (.iconst 0, 1) := by decide +kernel
theorem dX3_cue_21 : decode cX3_cue 21 = .ok (.istore_n 3, 1) := by decide +kernel
theorem dX3_cue_22 : decode cX3_cue 22 = .ok (.iconst 0, 1) := by decide +kernel
theorem dX3_cue_23 : decode cX3_cue 23 = .ok (.istore 4, 2) := by decide +kernel
theorem dX3_cue_25 : decode cX3_cue 25 = .ok (.iload 4, 2) := by decide +kernel
theorem dX3_cue_27 : decode cX3_cue 27 = .ok (.bipush 80, 2) := by decide +kernel
theorem dX3_cue_29 : decode cX3_cue 29 = .ok (.if_icmp .ge 53, 3) := by decide +kernel
theorem dX3_cue_32 : decode cX3_cue 32 = .ok (.aload_n 0, 1) := by decide +kernel
theorem dX3_cue_33 : decode cX3_cue 33 = .ok (.invokevirtual 124, 3) := by decide +kernel
theorem dX3_cue_36 : decode cX3_cue 36 = .ok (.aload_n 0, 1) := by decide +kernel
theorem dX3_cue_37 : decode cX3_cue 37 = .ok (.getfield 16, 3) := by decide +kernel
theorem dX3_cue_40 : decode cX3_cue 40 = .ok (.getfield 53, 3) := by decide +kernel
theorem dX3_cue_43 : decode cX3_cue 43 = .ok (.iload 4, 2) := by decide +kernel
theorem dX3_cue_45 : decode cX3_cue 45 = .ok (.bipush 16, 2) := by decide +kernel
theorem dX3_cue_47 : decode cX3_cue 47 = .ok (.irem, 1) := by decide +kernel
theorem dX3_cue_48 : decode cX3_cue 48 = .ok (.iload 4, 2) := by decide +kernel
theorem dX3_cue_50 : decode cX3_cue 50 = .ok (.bipush 16, 2) := by decide +kernel
theorem dX3_cue_52 : decode cX3_cue 52 = .ok (.idiv, 1) := by decide +kernel
theorem dX3_cue_53 : decode cX3_cue 53 = .ok (.iastore, 1) := by decide +kernel
theorem dX3_cue_54 : decode cX3_cue 54 = .ok (.aload_n 0, 1) := by decide +kernel
theorem dX3_cue_55 : decode cX3_cue 55 = .ok (.getfield 16, 3) := by decide +kernel
theorem dX3_cue_58 : decode cX3_cue 58 = .ok (.iload_n 1, 1) := by decide +kernel
theorem dX3_cue_59 : decode cX3_cue 59 = .ok (.invokevirtual 127, 3) := by decide +kernel
theorem dX3_cue_62 : decode cX3_cue 62 = .ok (.istore 5, 2) := by decide +kernel
theorem dX3_cue_64 : decode cX3_cue 64 = .ok (.iload 5, 2) := by decide +kernel
theorem dX3_cue_66 : decode cX3_cue 66 = .ok (.iload_n 2, 1) := by decide +kernel
theorem dX3_cue_67 : decode cX3_cue 67 = .ok (.if_icmp .le 9, 3) := by decide +kernel
theorem dX3_cue_70 : decode cX3_cue 70 = .ok (.iload 5, 2) := by decide +kernel
theorem dX3_cue_72 : decode cX3_cue 72 = .ok (.istore_n 2, 1) := by decide +kernel
theorem dX3_cue_73 : decode cX3_cue 73 = .ok (.iload 4, 2) := by decide +kernel
theorem dX3_cue_75 : decode cX3_cue 75 = .ok (.istore_n 3, 1) := by decide +kernel
theorem dX3_cue_76 : decode cX3_cue 76 = .ok (.iinc 4 1, 3) := by decide +kernel
theorem dX3_cue_79 : decode cX3_cue 79 = .ok (.goto (-54), 3) := by decide +kernel
theorem dX3_cue_82 : decode cX3_cue 82 = .ok (.iload_n 3, 1) := by decide +kernel
theorem dX3_cue_83 : decode cX3_cue 83 = .ok (.ireturn, 1) := by decide +kernel
theorem dX3_doze_0 : decode cX3_doze 0 = .ok (.iload_n 1, 1) := by decide +kernel
theorem dX3_doze_1 : decode cX3_doze 1 = .ok (.iconst 1, 1) := by decide +kernel
theorem dX3_doze_2 : decode cX3_doze 2 = .ok (.bipush 100, 2) := by decide +kernel
theorem dX3_doze_4 : decode cX3_doze 4 = .ok (.invokestatic 44, 3) := by decide +kernel
theorem dX3_doze_7 : decode cX3_doze 7 = .ok (.ifCond .ne 10, 3) := by decide +kernel
theorem dX3_doze_10 : decode cX3_doze 10 = .ok (.aload_n 0, 1) := by decide +kernel
theorem dX3_doze_11 : decode cX3_doze 11 = .ok (.ldc 48, 2) := by decide +kernel
theorem dX3_doze_13 : decode cX3_doze 13 = .ok (.invokevirtual 49, 3) := by decide +kernel
theorem dX3_doze_16 : decode cX3_doze 16 = .ok (.ireturn, 1) := by decide +kernel
theorem dX3_doze_17 : decode cX3_doze 17 = .ok (.ldc 138, 2) := by decide +kernel
theorem dX3_doze_19 : decode cX3_doze 19 = .ok (.istore_n 2, 1) := by decide +kernel
theorem dX3_doze_20 : decode cX3_doze 20 = .ok (.iconst (-1), 1) := by decide +kernel
theorem dX3_doze_21 : decode cX3_doze 21 = .ok (.istore_n 3, 1) := by decide +kernel
theorem dX3_doze_22 : decode cX3_doze 22 = .ok (.iconst 0, 1) := by decide +kernel
theorem dX3_doze_23 : decode cX3_doze 23 = .ok (.istore 4, 2) := by decide +kernel
theorem dX3_doze_25 : decode cX3_doze 25 = .ok (.iload 4, 2) := by decide +kernel
theorem dX3_doze_27 : decode cX3_doze 27 = .ok (.aload_n 0, 1) := by decide +kernel
theorem dX3_doze_28 : decode cX3_doze 28 = .ok (.getfield 12, 3) := by decide +kernel
theorem dX3_doze_31 : decode cX3_doze 31 = .ok (.getfield 76, 3) := by decide +kernel
theorem dX3_doze_34 : decode cX3_doze 34 = .ok (.if_icmp .ge 46, 3) := by decide +kernel
theorem dX3_doze_37 : decode cX3_doze 37 = .ok (.aload_n 0, 1) := by decide +kernel
theorem dX3_doze_38 : decode cX3_doze 38 = .ok (.invokevirtual 124, 3) := by decide +kernel
theorem dX3_doze_41 : decode cX3_doze 41 = .ok (.aload_n 0, 1) := by decide +kernel
theorem dX3_doze_42 : decode cX3_doze 42 = .ok (.getfield 16, 3) := by decide +kernel
theorem dX3_doze_45 : decode cX3_doze 45 = .ok (.getfield 88, 3) := by decide +kernel
theorem dX3_doze_48 : decode cX3_doze 48 = .ok (.iload 4, 2) := by decide +kernel
theorem dX3_doze_50 : decode cX3_doze 50 = .ok (.iconst 3, 1) := by decide +kernel
theorem dX3_doze_51 : decode cX3_doze 51 = .ok (.iastore, 1) := by decide +kernel
theorem dX3_doze_52 : decode cX3_doze 52 = .ok (.aload_n 0, 1) := by decide +kernel
theorem dX3_doze_53 : decode cX3_doze 53 = .ok (.getfield 16, 3) := by decide +kernel
theorem dX3_doze_56 : decode cX3_doze 56 = .ok (.iload_n 1, 1) := by decide +kernel
theorem dX3_doze_57 : decode cX3_doze 57 = .ok (.invokevirtual 127, 3) := by decide +kernel
theorem dX3_doze_60 : decode cX3_doze 60 = .ok (.istore 5, 2) := by decide +kernel
theorem dX3_doze_62 : decode cX3_doze 62 = .ok (.iload 5, 2) := by decide +kernel
theorem dX3_doze_64 : decode cX3_doze 64 = .ok (.iload_n 2, 1) := by decide +kernel
theorem dX3_doze_65 : decode cX3_doze 65 = .ok (.if_icmp .ge 9, 3) := by decide +kernel
theorem dX3_doze_68 : decode cX3_doze 68 = .ok (.iload 5, 2) := by decide +kernel
theorem dX3_doze_70 : decode cX3_doze 70 = .ok (.istore_n 2, 1) := by decide +kernel
theorem dX3_doze_71 : decode cX3_doze 71 = .ok (.iload 4, 2) := by decide +kernel
theorem dX3_doze_73 : decode cX3_doze 73 = .ok (.istore_n 3, 1) := by decide +kernel
theorem dX3_doze_74 : decode cX3_doze 74 = .ok (.iinc 4 1, 3) := by decide +kernel
theorem dX3_doze_77 : decode cX3_doze 77 = .ok (.goto (-52), 3) := by decide +kernel
theorem dX3_doze_80 : decode cX3_doze 80 = .ok (.iload_n 3, 1) := by decide +kernel
theorem dX3_doze_81 : decode cX3_doze 81 = .ok (.ifCond .ge 12, 3) := by decide +kernel
theorem dX3_doze_84 : decode cX3_doze 84 = .ok (.aload_n 0, 1) := by decide +kernel
theorem dX3_doze_85 : decode cX3_doze 85 = .ok (.ldc 136, 2) := by decide +kernel
theorem dX3_doze_87 : decode cX3_doze 87 = .ok (.invokevirtual 49, 3) := by decide +kernel
theorem dX3_doze_90 : decode cX3_doze 90 = .ok (.goto 4, 3) := by decide +kernel
theorem dX3_doze_93 : decode cX3_doze 93 = .ok (.iload_n 3, 1) := by decide +kernel
theorem dX3_doze_94 : decode cX3_doze 94 = .ok (.ireturn, 1) := by decide +kernel
theorem dX3_tense_0 : decode cX3_tense 0 = .ok (.iload_n 1, 1) := by decide +kernel
theorem dX3_tense_1 : decode cX3_tense 1 = .ok (.iconst 1, 1) := by decide +kernel
theorem dX3_tense_2 : decode cX3_tense 2 = .ok (.bipush 100, 2) := by decide +kernel
theorem dX3_tense_4 : decode cX3_tense 4 = .ok (.invokestatic 44, 3) := by decide +kernel
theorem dX3_tense_7 : decode cX3_tense 7 = .ok (.ifCond .eq 16, 3) := by decide +kernel
theorem dX3_tense_10 : decode cX3_tense 10 = .ok (.iload_n 2, 1) := by decide +kernel
theorem dX3_tense_11 : decode cX3_tense 11 = .ok (.sipush (-9999), 3) := by decide +kernel
theorem dX3_tense_14 : decode cX3_tense 14 = .ok (.sipush 9999, 3) := by decide +kernel
theorem dX3_tense_17 : decode cX3_tense 17 = .ok (.invokestatic 44, 3) := by decide +kernel
theorem dX3_tense_20 : decode cX3_tense 20 = .ok (.ifCond .ne 10, 3) := by decide +kernel
theorem dX3_tense_23 : decode cX3_tense 23 = .ok (.aload_n 0, 1) := by decide +kernel
theorem dX3_tense_24 : decode cX3_tense 24 = .ok (.ldc 48, 2) := by decide +kernel
theorem dX3_tense_26 : decode cX3_tense 26 = .ok (.invokevirtual 49, 3) := by decide +kernel
theorem dX3_tense_29 : decode cX3_tense 29 = .ok (.ireturn, 1) := by decide +kernel
theorem dX3_tense_30 : decode cX3_tense 30 = .ok (.bipush 20, 2) := by decide +kernel
theorem dX3_tense_32 : decode cX3_tense 32 = .ok (.istore_n 3, 1) := by decide +kernel
theorem dX3_tense_33 : decode cX3_tense 33 = .ok (.iload_n 3, 1) := by decide +kernel
theorem dX3_tense_34 : decode cX3_tense 34 = .ok (.ifCond .lt 35, 3) := by decide +kernel
theorem dX3_tense_37 : decode cX3_tense 37 = .ok (.aload_n 0, 1) := by decide +kernel
theorem dX3_tense_38 : decode cX3_tense 38 = .ok (.invokevirtual 124, 3) := by decide +kernel
theorem dX3_tense_41 : decode cX3_tense 41 = .ok (.aload_n 0, 1) := by decide +kernel
theorem dX3_tense_42 : decode cX3_tense 42 = .ok (.getfield 16, 3) := by decide +kernel
theorem dX3_tense_45 : decode cX3_tense 45 = .ok (.iload_n 3, 1) := by decide +kernel
theorem dX3_tense_46 : decode cX3_tense 46 = .ok (.invokevirtual 139, 3) := by decide +kernel
theorem dX3_tense_49 : decode cX3_tense 49 = .ok (.aload_n 0, 1) := by decide +kernel
theorem dX3_tense_50 : decode cX3_tense 50 = .ok (.getfield 16, 3) := by decide +kernel
theorem dX3_tense_53 : decode cX3_tense 53 = .ok (.iload_n 1, 1) := by decide +kernel
theorem dX3_tense_54 : decode cX3_tense 54 = .ok (.invokevirtual 127, 3) := by decide +kernel
theorem dX3_tense_57 : decode cX3_tense 57 = .ok (.iload_n 2, 1) := by decide +kernel
theorem dX3_tense_58 : decode cX3_tense 58 = .ok (.if_icmp .lt 5, 3) := by decide +kernel
theorem dX3_tense_61 : decode cX3_tense 61 = .ok (.iload_n 3, 1) := by decide +kernel
theorem dX3_tense_62 : decode cX3_tense 62 = .ok (.ireturn, 1) := by decide +kernel
theorem dX3_tense_63 : decode cX3_tense 63 = .ok (.iinc 3 (-1), 3) := by decide +kernel
theorem dX3_tense_66 : decode cX3_tense 66 = .ok (.goto (-33), 3) := by decide +kernel
theorem dX3_tense_69 : decode cX3_tense 69 = .ok (.aload_n 0, 1) := by decide +kernel
theorem dX3_tense_70 : decode cX3_tense 70 = .ok (.ldc 136, 2) := by decide +kernel
theorem dX3_tense_72 : decode cX3_tense 72 = .ok (.invokevirtual 49, 3) := by decide +kernel
theorem dX3_tense_75 : decode cX3_tense 75 = .ok (.ireturn, 1) := by decide +kernel
theorem dX3_best_0 : decode cX3_best 0 = .ok (.iload_n 1, 1) := by decide +kernel
theorem dX3_best_1 : decode cX3_best 1 = .ok (.iconst 0, 1) := by decide +kernel
theorem dX3_best_2 : decode cX3_best 2 = .ok (.sipush 400, 3) := by decide +kernel
theorem dX3_best_5 : decode cX3_best 5 = .ok (.invokestatic 44, 3) := by decide +kernel
theorem dX3_best_8 : decode cX3_best 8 = .ok (.ifCond .ne 10, 3) := by decide +kernel
theorem dX3_best_11 : decode cX3_best 11 = .ok (.aload_n 0, 1) := by decide +kernel
theorem dX3_best_12 : decode cX3_best 12 = .ok (.ldc 48, 2) := by decide +kernel
theorem dX3_best_14 : decode cX3_best 14 = .ok (.invokevirtual 49, 3) := by decide +kernel
theorem dX3_best_17 : decode cX3_best 17 = .ok (.ireturn, 1) := by decide +kernel
theorem dX3_best_18 : decode cX3_best 18 = .ok (.aload_n 0, 1) := by decide +kernel
theorem dX3_best_19 : decode cX3_best 19 = .ok (.invokevirtual 124, 3) := by decide +kernel
theorem dX3_best_22 : decode cX3_best 22 = .ok (.aload_n 0, 1) := by decide +kernel
theorem dX3_best_23 : decode cX3_best 23 = .ok (.getfield 16, 3) := by decide +kernel
theorem dX3_best_26 : decode cX3_best 26 = .ok (.iload_n 1, 1) := by decide +kernel
theorem dX3_best_27 : decode cX3_best 27 = .ok (.invokevirtual 120, 3) := by decide +kernel
theorem dX3_best_30 : decode cX3_best 30 = .ok (.sipush (-10000), 3) := by decide +kernel
theorem dX3_best_33 : decode cX3_best 33 = .ok (.istore_n 2, 1) := by decide +kernel
theorem dX3_best_34 : decode cX3_best 34 = .ok (.iconst (-1), 1) := by decide +kernel
theorem dX3_best_35 : decode cX3_best 35 = .ok (.istore_n 3, 1) := by decide +kernel
theorem dX3_best_36 : decode cX3_best 36 = .ok (.iconst 0, 1) := by decide +kernel
theorem dX3_best_37 : decode cX3_best 37 = .ok (.istore 4, 2) := by decide +kernel
theorem dX3_best_39 : decode cX3_best 39 = .ok (.iload 4, 2) := by decide +kernel
theorem dX3_best_41 : decode cX3_best 41 = .ok (.aload_n 0, 1) := by decide +kernel
theorem dX3_best_42 : decode cX3_best 42 = .ok (.getfield 16, 3) := by decide +kernel
theorem dX3_best_45 : decode cX3_best 45 = .ok (.getfield 76, 3) := by decide +kernel
theorem dX3_best_48 : decode cX3_best 48 = .ok (.if_icmp .ge 37, 3) := by decide +kernel
theorem dX3_best_51 : decode cX3_best 51 = .ok (.aload_n 0, 1) := by decide +kernel
theorem dX3_best_52 : decode cX3_best 52 = .ok (.getfield 16, 3) := by decide +kernel
theorem dX3_best_55 : decode cX3_best 55 = .ok (.getfield 94, 3) := by decide +kernel
theorem dX3_best_58 : decode cX3_best 58 = .ok (.iload 4, 2) := by decide +kernel
theorem dX3_best_60 : decode cX3_best 60 = .ok (.iaload, 1) := by decide +kernel
theorem dX3_best_61 : decode cX3_best 61 = .ok (.iload_n 2, 1) := by decide +kernel
theorem dX3_best_62 : decode cX3_best 62 = .ok (.if_icmp .le 17, 3) := by decide +kernel
theorem dX3_best_65 : decode cX3_best 65 = .ok (.aload_n 0, 1) := by decide +kernel
theorem dX3_best_66 : decode cX3_best 66 = .ok (.getfield 16, 3) := by decide +kernel
theorem dX3_best_69 : decode cX3_best 69 = .ok (.getfield 94, 3) := by decide +kernel
theorem dX3_best_72 : decode cX3_best 72 = .ok (.iload 4, 2) := by decide +kernel
theorem dX3_best_74 : decode cX3_best 74 = .ok (.iaload, 1) := by decide +kernel
theorem dX3_best_75 : decode cX3_best 75 = .ok (.istore_n 2, 1) := by decide +kernel
theorem dX3_best_76 : decode cX3_best 76 = .ok (.iload 4, 2) := by decide +kernel
theorem dX3_best_78 : decode cX3_best 78 = .ok (.istore_n 3, 1) := by decide +kernel
theorem dX3_best_79 : decode cX3_best 79 = .ok (.iinc 4 1, 3) := by decide +kernel
theorem dX3_best_82 : decode cX3_best 82 = .ok (.goto (-43), 3) := by decide +kernel
theorem dX3_best_85 : decode cX3_best 85 = .ok (.iload_n 3, 1) := by decide +kernel
theorem dX3_best_86 : decode cX3_best 86 = .ok (.ifCond .ge 12, 3) := by decide +kernel
theorem dX3_best_89 : decode cX3_best 89 = .ok (.aload_n 0, 1) := by decide +kernel
theorem dX3_best_90 : decode cX3_best 90 = .ok (.ldc 136, 2) := by decide +kernel
theorem dX3_best_92 : decode cX3_best 92 = .ok (.invokevirtual 49, 3) := by decide +kernel
theorem dX3_best_95 : decode cX3_best 95 = .ok (.goto 4, 3) := by decide +kernel
theorem dX3_best_98 : decode cX3_best 98 = .ok (.iload_n 3, 1) := by decide +kernel
theorem dX3_best_99 : decode cX3_best 99 = .ok (.ireturn, 1) := by decide +kernel
theorem dX3_feed_0 : decode cX3_feed 0 = .ok (.iload_n 2, 1) := by decide +kernel
theorem dX3_feed_1 : decode cX3_feed 1 = .ok (.iconst 1, 1) := by decide +kernel
theorem dX3_feed_2 : decode cX3_feed 2 = .ok (.iconst 4, 1) := by decide +kernel
theorem dX3_feed_3 : decode cX3_feed 3 = .ok (.invokestatic 44, 3) := by decide +kernel
theorem dX3_feed_6 : decode cX3_feed 6 = .ok (.ifCond .ne 10, 3) := by decide +kernel
theorem dX3_feed_9 : decode cX3_feed 9 = .ok (.aload_n 0, 1) := by decide +kernel
theorem dX3_feed_10 : decode cX3_feed 10 = .ok (.ldc 48, 2) := by decide +kernel
theorem dX3_feed_12 : decode cX3_feed 12 = .ok (.invokevirtual 49, 3) := by decide +kernel
theorem dX3_feed_15 : decode cX3_feed 15 = .ok (.ireturn, 1) := by decide +kernel
theorem dX3_feed_16 : decode cX3_feed 16 = .ok (.aload_n 0, 1) := by decide +kernel
theorem dX3_feed_17 : decode cX3_feed 17 = .ok (.getfield 29, 3) := by decide +kernel
theorem dX3_feed_20 : decode cX3_feed 20 = .ok (.getfield 142, 3) := by decide +kernel
theorem dX3_feed_23 : decode cX3_feed 23 = .ok (.iload_n 2, 1) := by decide +kernel
theorem dX3_feed_24 : decode cX3_feed 24 = .ok (.iadd, 1) := by decide +kernel
theorem dX3_feed_25 : decode cX3_feed 25 = .ok (.bipush 120, 2) := by decide +kernel
theorem dX3_feed_27 : decode cX3_feed 27 = .ok (.if_icmp .le 10, 3) := by decide +kernel
theorem dX3_feed_30 : decode cX3_feed 30 = .ok (.aload_n 0, 1) := by decide +kernel
theorem dX3_feed_31 : decode cX3_feed 31 = .ok (.ldc 79, 2) := by decide +kernel
theorem dX3_feed_33 : decode cX3_feed 33 = .ok (.invokevirtual 49, 3) := by decide +kernel
theorem dX3_feed_36 : decode cX3_feed 36 = .ok (.ireturn, 1) := by decide +kernel
theorem dX3_feed_37 : decode cX3_feed 37 = .ok (.iload_n 2, 1) := by decide +kernel
theorem dX3_feed_38 : decode cX3_feed 38 = .ok (.iconst 1, 1) := by decide +kernel
theorem dX3_feed_39 : decode cX3_feed 39 = .ok (.isub, 1) := by decide +kernel
theorem dX3_feed_40 : decode cX3_feed 40 = .ok (.istore_n 3, 1) := by decide +kernel
theorem dX3_feed_41 : decode cX3_feed 41 = .ok (.iload_n 3, 1) := by decide +kernel
theorem dX3_feed_42 : decode cX3_feed 42 = .ok (.ifCond .lt 23, 3) := by decide +kernel
theorem dX3_feed_45 : decode cX3_feed 45 = .ok (.aload_n 0, 1) := by decide +kernel
theorem dX3_feed_46 : decode cX3_feed 46 = .ok (.getfield 29, 3) := by decide +kernel
theorem dX3_feed_49 : decode cX3_feed 49 = .ok (.iload_n 1, 1) := by decide +kernel
theorem dX3_feed_50 : decode cX3_feed 50 = .ok (.bipush 8, 2) := by decide +kernel
theorem dX3_feed_52 : decode cX3_feed 52 = .ok (.iload_n 3, 1) := by decide +kernel
theorem dX3_feed_53 : decode cX3_feed 53 = .ok (.imul, 1) := by decide +kernel
theorem dX3_feed_54 : decode cX3_feed 54 = .ok (.ishr, 1) := by decide +kernel
theorem dX3_feed_55 : decode cX3_feed 55 = .ok (.i2b, 1) := by decide +kernel
theorem dX3_feed_56 : decode cX3_feed 56 = .ok (.invokevirtual 145, 3) := by decide +kernel
theorem dX3_feed_59 : decode cX3_feed 59 = .ok (.iinc 3 (-1), 3) := by decide +kernel
theorem dX3_feed_62 : decode cX3_feed 62 = .ok (.goto (-21), 3) := by decide +kernel
theorem dX3_feed_65 : decode cX3_feed 65 = .ok (.aload_n 0, 1) := by decide +kernel
theorem dX3_feed_66 : decode cX3_feed 66 = .ok (.getfield 29, 3) := by decide +kernel
theorem dX3_feed_69 : decode cX3_feed 69 = .ok (.getfield 142, 3) := by decide +kernel
theorem dX3_feed_72 : decode cX3_feed 72 = .ok (.ireturn, 1) := by decide +kernel
theorem dX3_wipe_0 : decode cX3_wipe 0 = .ok (.aload_n 0, 1) := by decide +kernel
theorem dX3_wipe_1 : decode cX3_wipe 1 = .ok (.getfield 29, 3) := by decide +kernel
theorem dX3_wipe_4 : decode cX3_wipe 4 = .ok (.getfield 142, 3) := by decide +kernel
theorem dX3_wipe_7 : decode cX3_wipe 7 = .ok (.istore_n 1, 1) := by decide +kernel
theorem dX3_wipe_8 : decode cX3_wipe 8 = .ok (.aload_n 0, 1) := by decide +kernel
theorem dX3_wipe_9 : decode cX3_wipe 9 = .ok (.getfield 29, 3) := by decide +kernel
theorem dX3_wipe_12 : decode cX3_wipe 12 = .ok (.iconst 0, 1) := by decide +kernel
theorem dX3_wipe_13 : decode cX3_wipe 13 = .ok (.putfield 142, 3) := by decide +kernel
theorem dX3_wipe_16 : decode cX3_wipe 16 = .ok (.iload_n 1, 1) := by decide +kernel
theorem dX3_wipe_17 : decode cX3_wipe 17 = .ok (.ireturn, 1) := by decide +kernel
theorem dX3_evening_0 : decode cX3_evening 0 = .ok (.aload_n 0, 1) := by decide +kernel
theorem dX3_evening_1 : decode cX3_evening 1 = .ok (.invokevirtual 124, 3) := by decide +kernel
theorem dX3_evening_4 : decode cX3_evening 4 = .ok (.aload_n 0, 1) := by decide +kernel
theorem dX3_evening_5 : decode cX3_evening 5 = .ok (.getfield 29, 3) := by decide +kernel
theorem dX3_evening_8 : decode cX3_evening 8 = .ok (.aload_n 0, 1) := by decide +kernel
theorem dX3_evening_9 : decode cX3_evening 9 = .ok (.getfield 16, 3) := by decide +kernel
theorem dX3_evening_12 : decode cX3_evening 12 = .ok (.invokevirtual 149, 3) := by decide +kernel
theorem dX3_evening_15 : decode cX3_evening 15 = .ok (.istore_n 1, 1) := by decide +kernel
theorem dX3_evening_16 : decode cX3_evening 16 = .ok (.iload_n 1, 1) := by decide +kernel
theorem dX3_evening_17 : decode cX3_evening 17 = .ok (.ifCond .lt 14, 3) := by decide +kernel
theorem dX3_evening_20 : decode cX3_evening 20 = .ok (.aload_n 0, 1) := by decide +kernel
theorem dX3_evening_21 : decode cX3_evening 21 = .ok (.getfield 12, 3) := by decide +kernel
theorem dX3_evening_24 : decode cX3_evening 24 = .ok (.aload_n 0, 1) := by decide +kernel
theorem dX3_evening_25 : decode cX3_evening 25 = .ok (.getfield 16, 3) := by decide +kernel
theorem dX3_evening_28 : decode cX3_evening 28 = .ok (.invokevirtual 153, 3) := by decide +kernel
theorem dX3_evening_31 : decode cX3_evening 31 = .ok (.aload_n 0, 1) := by decide +kernel
theorem dX3_evening_32 : decode cX3_evening 32 = .ok (.getfield 29, 3) := by decide +kernel
theorem dX3_evening_35 : decode cX3_evening 35 = .ok (.iconst 0, 1) := by decide +kernel
theorem dX3_evening_36 : decode cX3_evening 36 = .ok (.putfield 142, 3) := by decide +kernel
theorem dX3_evening_39 : decode cX3_evening 39 = .ok (.iload_n 1, 1) := by decide +kernel
theorem dX3_evening_40 : decode cX3_evening 40 = .ok (.ireturn, 1) := by decide +kernel
theorem dX3_sheet_0 : decode cX3_sheet 0 = .ok (.iload_n 1, 1) := by decide +kernel
theorem dX3_sheet_1 : decode cX3_sheet 1 = .ok (.invokestatic 157, 3) := by decide +kernel
theorem dX3_sheet_4 : decode cX3_sheet 4 = .ok (.ifCond .eq 25, 3) := by decide +kernel
theorem dX3_sheet_7 : decode cX3_sheet 7 = .ok (.iload_n 2, 1) := by decide +kernel
theorem dX3_sheet_8 : decode cX3_sheet 8 = .ok (.ifCond .eq 28, 3) := by decide +kernel
theorem dX3_sheet_11 : decode cX3_sheet 11 = .ok (.iload_n 2, 1) := by decide +kernel
theorem dX3_sheet_12 : decode cX3_sheet 12 = .ok (.bipush 8, 2) := by decide +kernel
theorem dX3_sheet_14 : decode cX3_sheet 14 = .ok (.if_icmp .eq 22, 3) := by decide +kernel
theorem dX3_sheet_17 : decode cX3_sheet 17 = .ok (.iload_n 2, 1) := by decide +kernel
theorem dX3_sheet_18 : decode cX3_sheet 18 = .ok (.bipush 16, 2) := by decide +kernel
theorem dX3_sheet_20 : decode cX3_sheet 20 = .ok (.if_icmp .eq 16, 3) := by decide +kernel
theorem dX3_sheet_23 : decode cX3_sheet 23 = .ok (.iload_n 2, 1) := by decide +kernel
theorem dX3_sheet_24 : decode cX3_sheet 24 = .ok (.bipush 64, 2) := by decide +kernel
theorem dX3_sheet_26 : decode cX3_sheet 26 = .ok (.if_icmp .eq 10, 3) := by decide +kernel
