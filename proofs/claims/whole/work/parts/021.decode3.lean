theorem dX4_sumOf_4 : decode cX4_sumOf 4 = .ok (.iload_n 3, 1) := by decide +kernel
theorem dX4_sumOf_5 : decode cX4_sumOf 5 = .ok (.aload_n 0, 1) := by decide +kernel
theorem dX4_sumOf_6 : decode cX4_sumOf 6 = .ok (.getfield 7, 3) := by decide +kernel
theorem dX4_sumOf_9 : decode cX4_sumOf 9 = .ok (.iconst 0, 1) := by decide +kernel
theorem dX4_sumOf_10 : decode cX4_sumOf 10 = .ok (.iaload, 1) := by decide +kernel
theorem dX4_sumOf_11 : decode cX4_sumOf 11 = .ok (.if_icmp .ge 18, 3) := by decide +kernel
theorem dX4_sumOf_14 : decode cX4_sumOf 14 = .ok (.iload_n 2, 1) := by decide +kernel
theorem dX4_sumOf_15 : decode cX4_sumOf 15 = .ok (.aload_n 0, 1) := by decide +kernel
theorem dX4_sumOf_16 : decode cX4_sumOf 16 = .ok (.iload_n 3, 1) := by decide +kernel
theorem dX4_sumOf_17 : decode cX4_sumOf 17 = .ok (.iload_n 1, 1) := by decide +kernel
theorem dX4_sumOf_18 : decode cX4_sumOf 18 = .ok (.invokevirtual 54, 3) := by decide +kernel
theorem dX4_sumOf_21 : decode cX4_sumOf 21 = .ok (.iadd, 1) := by decide +kernel
theorem dX4_sumOf_22 : decode cX4_sumOf 22 = .ok (.istore_n 2, 1) := by decide +kernel
theorem dX4_sumOf_23 : decode cX4_sumOf 23 = .ok (.iinc 3 1, 3) := by decide +kernel
theorem dX4_sumOf_26 : decode cX4_sumOf 26 = .ok (.goto (-22), 3) := by decide +kernel
theorem dX4_sumOf_29 : decode cX4_sumOf 29 = .ok (.iload_n 2, 1) := by decide +kernel
theorem dX4_sumOf_30 : decode cX4_sumOf 30 = .ok (.ireturn, 1) := by decide +kernel
theorem dX4_isMoment_0 : decode cX4_isMoment 0 = .ok (.iload_n 0, 1) := by decide +kernel
theorem dX4_isMoment_1 : decode cX4_isMoment 1 = .ok (.i2l, 1) := by decide +kernel
theorem dX4_isMoment_2 : decode cX4_isMoment 2 = .ok (.lconst 0, 1) := by decide +kernel
theorem dX4_isMoment_3 : decode cX4_isMoment 3 = .ok (.ldc2_w 83, 3) := by decide +kernel
theorem dX4_isMoment_6 : decode cX4_isMoment 6 = .ok (.invokestatic 46, 3) := by decide +kernel
theorem dX4_isMoment_9 : decode cX4_isMoment 9 = .ok (.ireturn, 1) := by decide +kernel
theorem dX4_isDone_0 : decode cX4_isDone 0 = .ok (.iload_n 0, 1) := by decide +kernel
theorem dX4_isDone_1 : decode cX4_isDone 1 = .ok (.i2l, 1) := by decide +kernel
theorem dX4_isDone_2 : decode cX4_isDone 2 = .ok (.lconst 0, 1) := by decide +kernel
theorem dX4_isDone_3 : decode cX4_isDone 3 = .ok (.ldc2_w 85, 3) := by decide +kernel
theorem dX4_isDone_6 : decode cX4_isDone 6 = .ok (.invokestatic 46, 3) := by decide +kernel
theorem dX4_isDone_9 : decode cX4_isDone 9 = .ok (.ireturn, 1) := by decide +kernel
theorem dX4_play_0 : decode cX4_play 0 = .ok (.iload_n 1, 1) := by decide +kernel
theorem dX4_play_1 : decode cX4_play 1 = .ok (.invokestatic 87, 3) := by decide +kernel
theorem dX4_play_4 : decode cX4_play 4 = .ok (.ifCond .eq 35, 3) := by decide +kernel
theorem dX4_play_7 : decode cX4_play 7 = .ok (.iload_n 2, 1) := by decide +kernel
theorem dX4_play_8 : decode cX4_play 8 = .ok (.i2l, 1) := by decide +kernel
theorem dX4_play_9 : decode cX4_play 9 = .ok (.lconst 0, 1) := by decide +kernel
theorem dX4_play_10 : decode cX4_play 10 = .ok (.lconst 1, 1) := by decide +kernel
theorem dX4_play_11 : decode cX4_play 11 = .ok (.invokestatic 46, 3) := by decide +kernel
theorem dX4_play_14 : decode cX4_play 14 = .ok (.ifCond .eq 25, 3) := by decide +kernel
theorem dX4_play_17 : decode cX4_play 17 = .ok (.iload_n 3, 1) := by decide +kernel
theorem dX4_play_18 : decode cX4_play 18 = .ok (.i2l, 1) := by decide +kernel
theorem dX4_play_19 : decode cX4_play 19 = .ok (.lconst 0, 1) := by decide +kernel
theorem dX4_play_20 : decode cX4_play 20 = .ok (.iload_n 2, 1) := by decide +kernel
theorem dX4_play_21 : decode cX4_play 21 = .ok (.ifCond .ne 9, 3) := by decide +kernel
theorem dX4_play_24 : decode cX4_play 24 = .ok (.ldc2_w 85, 3) := by decide +kernel
theorem dX4_play_27 : decode cX4_play 27 = .ok (.goto 6, 3) := by decide +kernel
theorem dX4_play_30 : decode cX4_play 30 = .ok (.ldc2_w 90, 3) := by decide +kernel
theorem dX4_play_33 : decode cX4_play 33 = .ok (.invokestatic 46, 3) := by decide +kernel
theorem dX4_play_36 : decode cX4_play 36 = .ok (.ifCond .ne 9, 3) := by decide +kernel
theorem dX4_play_39 : decode cX4_play 39 = .ok (.aload_n 0, 1) := by decide +kernel
theorem dX4_play_40 : decode cX4_play 40 = .ok (.iconst 0, 1) := by decide +kernel
theorem dX4_play_41 : decode cX4_play 41 = .ok (.invokevirtual 92, 3) := by decide +kernel
theorem dX4_play_44 : decode cX4_play 44 = .ok (.ireturn, 1) := by decide +kernel
theorem dX4_play_45 : decode cX4_play 45 = .ok (.aload_n 0, 1) := by decide +kernel
theorem dX4_play_46 : decode cX4_play 46 = .ok (.iload_n 2, 1) := by decide +kernel
theorem dX4_play_47 : decode cX4_play 47 = .ok (.ifCond .ne 7, 3) := by decide +kernel
theorem dX4_play_50 : decode cX4_play 50 = .ok (.iconst 3, 1) := by decide +kernel
theorem dX4_play_51 : decode cX4_play 51 = .ok (.goto 5, 3) := by decide +kernel
theorem dX4_play_54 : decode cX4_play 54 = .ok (.bipush 19, 2) := by decide +kernel
theorem dX4_play_56 : decode cX4_play 56 = .ok (.iload_n 1, 1) := by decide +kernel
theorem dX4_play_57 : decode cX4_play 57 = .ok (.iadd, 1) := by decide +kernel
theorem dX4_play_58 : decode cX4_play 58 = .ok (.iload_n 3, 1) := by decide +kernel
theorem dX4_play_59 : decode cX4_play 59 = .ok (.invokevirtual 95, 3) := by decide +kernel
theorem dX4_play_62 : decode cX4_play 62 = .ok (.ireturn, 1) := by decide +kernel
theorem dX4_doers_0 : decode cX4_doers 0 = .ok (.iconst 0, 1) := by decide +kernel
theorem dX4_doers_1 : decode cX4_doers 1 = .ok (.istore_n 3, 1) := by decide +kernel
theorem dX4_doers_2 : decode cX4_doers 2 = .ok (.iconst 0, 1) := by decide +kernel
theorem dX4_doers_3 : decode cX4_doers 3 = .ok (.istore 4, 2) := by decide +kernel
theorem dX4_doers_5 : decode cX4_doers 5 = .ok (.iconst 0, 1) := by decide +kernel
theorem dX4_doers_6 : decode cX4_doers 6 = .ok (.istore 5, 2) := by decide +kernel
theorem dX4_doers_8 : decode cX4_doers 8 = .ok (.iload 5, 2) := by decide +kernel
theorem dX4_doers_10 : decode cX4_doers 10 = .ok (.aload_n 0, 1) := by decide +kernel
theorem dX4_doers_11 : decode cX4_doers 11 = .ok (.getfield 7, 3) := by decide +kernel
theorem dX4_doers_14 : decode cX4_doers 14 = .ok (.iconst 0, 1) := by decide +kernel
theorem dX4_doers_15 : decode cX4_doers 15 = .ok (.iaload, 1) := by decide +kernel
theorem dX4_doers_16 : decode cX4_doers 16 = .ok (.if_icmp .ge 57, 3) := by decide +kernel
theorem dX4_doers_19 : decode cX4_doers 19 = .ok (.aload_n 0, 1) := by decide +kernel
theorem dX4_doers_20 : decode cX4_doers 20 = .ok (.iload 5, 2) := by decide +kernel
theorem dX4_doers_22 : decode cX4_doers 22 = .ok (.invokevirtual 66, 3) := by decide +kernel
theorem dX4_doers_25 : decode cX4_doers 25 = .ok (.iload_n 1, 1) := by decide +kernel
theorem dX4_doers_26 : decode cX4_doers 26 = .ok (.if_icmp .ne 7, 3) := by decide +kernel
theorem dX4_doers_29 : decode cX4_doers 29 = .ok (.iconst 1, 1) := by decide +kernel
theorem dX4_doers_30 : decode cX4_doers 30 = .ok (.goto 4, 3) := by decide +kernel
theorem dX4_doers_33 : decode cX4_doers 33 = .ok (.iconst 0, 1) := by decide +kernel
theorem dX4_doers_34 : decode cX4_doers 34 = .ok (.istore 6, 2) := by decide +kernel
theorem dX4_doers_36 : decode cX4_doers 36 = .ok (.iload_n 3, 1) := by decide +kernel
theorem dX4_doers_37 : decode cX4_doers 37 = .ok (.iload 6, 2) := by decide +kernel
theorem dX4_doers_39 : decode cX4_doers 39 = .ok (.ifCond .eq 10, 3) := by decide +kernel
theorem dX4_doers_42 : decode cX4_doers 42 = .ok (.iconst 1, 1) := by decide +kernel
theorem dX4_doers_43 : decode cX4_doers 43 = .ok (.iload 5, 2) := by decide +kernel
theorem dX4_doers_45 : decode cX4_doers 45 = .ok (.ishl, 1) := by decide +kernel
theorem dX4_doers_46 : decode cX4_doers 46 = .ok (.goto 4, 3) := by decide +kernel
theorem dX4_doers_49 : decode cX4_doers 49 = .ok (.iconst 0, 1) := by decide +kernel
theorem dX4_doers_50 : decode cX4_doers 50 = .ok (.ior, 1) := by decide +kernel
theorem dX4_doers_51 : decode cX4_doers 51 = .ok (.istore_n 3, 1) := by decide +kernel
theorem dX4_doers_52 : decode cX4_doers 52 = .ok (.iload 4, 2) := by decide +kernel
theorem dX4_doers_54 : decode cX4_doers 54 = .ok (.iload 6, 2) := by decide +kernel
theorem dX4_doers_56 : decode cX4_doers 56 = .ok (.ifCond .eq 7, 3) := by decide +kernel
theorem dX4_doers_59 : decode cX4_doers 59 = .ok (.iconst 1, 1) := by decide +kernel
theorem dX4_doers_60 : decode cX4_doers 60 = .ok (.goto 4, 3) := by decide +kernel
theorem dX4_doers_63 : decode cX4_doers 63 = .ok (.iconst 0, 1) := by decide +kernel
theorem dX4_doers_64 : decode cX4_doers 64 = .ok (.iadd, 1) := by decide +kernel
theorem dX4_doers_65 : decode cX4_doers 65 = .ok (.istore 4, 2) := by decide +kernel
theorem dX4_doers_67 : decode cX4_doers 67 = .ok (.iinc 5 1, 3) := by decide +kernel
theorem dX4_doers_70 : decode cX4_doers 70 = .ok (.goto (-62), 3) := by decide +kernel
theorem dX4_doers_73 : decode cX4_doers 73 = .ok (.iload_n 2, 1) := by decide +kernel
theorem dX4_doers_74 : decode cX4_doers 74 = .ok (.ifCond .eq 7, 3) := by decide +kernel
theorem dX4_doers_77 : decode cX4_doers 77 = .ok (.iload_n 3, 1) := by decide +kernel
theorem dX4_doers_78 : decode cX4_doers 78 = .ok (.goto 5, 3) := by decide +kernel
theorem dX4_doers_81 : decode cX4_doers 81 = .ok (.iload 4, 2) := by decide +kernel
theorem dX4_doers_83 : decode cX4_doers 83 = .ok (.ireturn, 1) := by decide +kernel
theorem dX4_now_0 : decode cX4_now 0 = .ok (.iload_n 1, 1) := by decide +kernel
theorem dX4_now_1 : decode cX4_now 1 = .ok (.tableswitch 121 0 6 #[43, 50, 57, 71, 86, 96, 115], 43) := by decide +kernel
theorem dX4_now_44 : decode cX4_now 44 = .ok (.aload_n 0, 1) := by decide +kernel
theorem dX4_now_45 : decode cX4_now 45 = .ok (.getfield 7, 3) := by decide +kernel
theorem dX4_now_48 : decode cX4_now 48 = .ok (.iconst 1, 1) := by decide +kernel
theorem dX4_now_49 : decode cX4_now 49 = .ok (.iaload, 1) := by decide +kernel
theorem dX4_now_50 : decode cX4_now 50 = .ok (.ireturn, 1) := by decide +kernel
theorem dX4_now_51 : decode cX4_now 51 = .ok (.aload_n 0, 1) := by decide +kernel
theorem dX4_now_52 : decode cX4_now 52 = .ok (.getfield 7, 3) := by decide +kernel
theorem dX4_now_55 : decode cX4_now 55 = .ok (.iconst 2, 1) := by decide +kernel
theorem dX4_now_56 : decode cX4_now 56 = .ok (.iaload, 1) := by decide +kernel
theorem dX4_now_57 : decode cX4_now 57 = .ok (.ireturn, 1) := by decide +kernel
theorem dX4_now_58 : decode cX4_now 58 = .ok (.aload_n 0, 1) := by decide +kernel
theorem dX4_now_59 : decode cX4_now 59 = .ok (.getfield 7, 3) := by decide +kernel
theorem dX4_now_62 : decode cX4_now 62 = .ok (.iconst 3, 1) := by decide +kernel
theorem dX4_now_63 : decode cX4_now 63 = .ok (.aload_n 0, 1) := by decide +kernel
theorem dX4_now_64 : decode cX4_now 64 = .ok (.getfield 7, 3) := by decide +kernel
theorem dX4_now_67 : decode cX4_now 67 = .ok (.iconst 2, 1) := by decide +kernel
theorem dX4_now_68 : decode cX4_now 68 = .ok (.iaload, 1) := by decide +kernel
theorem dX4_now_69 : decode cX4_now 69 = .ok (.iadd, 1) := by decide +kernel
theorem dX4_now_70 : decode cX4_now 70 = .ok (.iaload, 1) := by decide +kernel
theorem dX4_now_71 : decode cX4_now 71 = .ok (.ireturn, 1) := by decide +kernel
theorem dX4_now_72 : decode cX4_now 72 = .ok (.aload_n 0, 1) := by decide +kernel
theorem dX4_now_73 : decode cX4_now 73 = .ok (.getfield 7, 3) := by decide +kernel
theorem dX4_now_76 : decode cX4_now 76 = .ok (.bipush 19, 2) := by decide +kernel
theorem dX4_now_78 : decode cX4_now 78 = .ok (.aload_n 0, 1) := by decide +kernel
theorem dX4_now_79 : decode cX4_now 79 = .ok (.getfield 7, 3) := by decide +kernel
theorem dX4_now_82 : decode cX4_now 82 = .ok (.iconst 2, 1) := by decide +kernel
theorem dX4_now_83 : decode cX4_now 83 = .ok (.iaload, 1) := by decide +kernel
theorem dX4_now_84 : decode cX4_now 84 = .ok (.iadd, 1) := by decide +kernel
theorem dX4_now_85 : decode cX4_now 85 = .ok (.iaload, 1) := by decide +kernel
theorem dX4_now_86 : decode cX4_now 86 = .ok (.ireturn, 1) := by decide +kernel
theorem dX4_now_87 : decode cX4_now 87 = .ok (.sipush 10000, 3) := by decide +kernel
theorem dX4_now_90 : decode cX4_now 90 = .ok (.aload_n 0, 1) := by decide +kernel
theorem dX4_now_91 : decode cX4_now 91 = .ok (.iconst 2, 1) := by decide +kernel
theorem dX4_now_92 : decode cX4_now 92 = .ok (.invokevirtual 98, 3) := by decide +kernel
theorem dX4_now_95 : decode cX4_now 95 = .ok (.iadd, 1) := by decide +kernel
theorem dX4_now_96 : decode cX4_now 96 = .ok (.ireturn, 1) := by decide +kernel
theorem dX4_now_97 : decode cX4_now 97 = .ok (.aload_n 0, 1) := by decide +kernel
theorem dX4_now_98 : decode cX4_now 98 = .ok (.aload_n 0, 1) := by decide +kernel
theorem dX4_now_99 : decode cX4_now 99 = .ok (.getfield 7, 3) := by decide +kernel
theorem dX4_now_102 : decode cX4_now 102 = .ok (.iconst 3, 1) := by decide +kernel
theorem dX4_now_103 : decode cX4_now 103 = .ok (.aload_n 0, 1) := by decide +kernel
theorem dX4_now_104 : decode cX4_now 104 = .ok (.getfield 7, 3) := by decide +kernel
theorem dX4_now_107 : decode cX4_now 107 = .ok (.iconst 2, 1) := by decide +kernel
theorem dX4_now_108 : decode cX4_now 108 = .ok (.iaload, 1) := by decide +kernel
theorem dX4_now_109 : decode cX4_now 109 = .ok (.iadd, 1) := by decide +kernel
theorem dX4_now_110 : decode cX4_now 110 = .ok (.iaload, 1) := by decide +kernel
theorem dX4_now_111 : decode cX4_now 111 = .ok (.iconst 1, 1) := by decide +kernel
theorem dX4_now_112 : decode cX4_now 112 = .ok (.invokevirtual 101, 3) := by decide +kernel
theorem dX4_now_115 : decode cX4_now 115 = .ok (.ireturn, 1) := by decide +kernel
theorem dX4_now_116 : decode cX4_now 116 = .ok (.aload_n 0, 1) := by decide +kernel
theorem dX4_now_117 : decode cX4_now 117 = .ok (.iconst 1, 1) := by decide +kernel
theorem dX4_now_118 : decode cX4_now 118 = .ok (.invokevirtual 98, 3) := by decide +kernel
theorem dX4_now_121 : decode cX4_now 121 = .ok (.ireturn, 1) := by decide +kernel
theorem dX4_now_122 : decode cX4_now 122 = .ok (.aload_n 0, 1) := by decide +kernel
theorem dX4_now_123 : decode cX4_now 123 = .ok (.iconst 0, 1) := by decide +kernel
theorem dX4_now_124 : decode cX4_now 124 = .ok (.invokevirtual 92, 3) := by decide +kernel
theorem dX4_now_127 : decode cX4_now 127 = .ok (.ireturn, 1) := by decide +kernel
theorem dX4_comesIn_0 : decode cX4_comesIn 0 = .ok (.aload_n 0, 1) := by decide +kernel
theorem dX4_comesIn_1 : decode cX4_comesIn 1 = .ok (.getfield 7, 3) := by decide +kernel
theorem dX4_comesIn_4 : decode cX4_comesIn 4 = .ok (.iconst 0, 1) := by decide +kernel
theorem dX4_comesIn_5 : decode cX4_comesIn 5 = .ok (.iaload, 1) := by decide +kernel
theorem dX4_comesIn_6 : decode cX4_comesIn 6 = .ok (.istore_n 2, 1) := by decide +kernel
theorem dX4_comesIn_7 : decode cX4_comesIn 7 = .ok (.aload_n 0, 1) := by decide +kernel
theorem dX4_comesIn_8 : decode cX4_comesIn 8 = .ok (.iload_n 2, 1) := by decide +kernel
theorem dX4_comesIn_9 : decode cX4_comesIn 9 = .ok (.iconst 0, 1) := by decide +kernel
theorem dX4_comesIn_10 : decode cX4_comesIn 10 = .ok (.iload_n 1, 1) := by decide +kernel
theorem dX4_comesIn_11 : decode cX4_comesIn 11 = .ok (.invokevirtual 73, 3) := by decide +kernel
theorem dX4_comesIn_14 : decode cX4_comesIn 14 = .ok (.aload_n 0, 1) := by decide +kernel
theorem dX4_comesIn_15 : decode cX4_comesIn 15 = .ok (.iload_n 2, 1) := by decide +kernel
theorem dX4_comesIn_16 : decode cX4_comesIn 16 = .ok (.iconst 1, 1) := by decide +kernel
theorem dX4_comesIn_17 : decode cX4_comesIn 17 = .ok (.bipush 60, 2) := by decide +kernel
theorem dX4_comesIn_19 : decode cX4_comesIn 19 = .ok (.invokevirtual 73, 3) := by decide +kernel
theorem dX4_comesIn_22 : decode cX4_comesIn 22 = .ok (.aload_n 0, 1) := by decide +kernel
theorem dX4_comesIn_23 : decode cX4_comesIn 23 = .ok (.iload_n 2, 1) := by decide +kernel
theorem dX4_comesIn_24 : decode cX4_comesIn 24 = .ok (.iconst 2, 1) := by decide +kernel
theorem dX4_comesIn_25 : decode cX4_comesIn 25 = .ok (.iconst 0, 1) := by decide +kernel
theorem dX4_comesIn_26 : decode cX4_comesIn 26 = .ok (.invokevirtual 73, 3) := by decide +kernel
theorem dX4_comesIn_29 : decode cX4_comesIn 29 = .ok (.aload_n 0, 1) := by decide +kernel
theorem dX4_comesIn_30 : decode cX4_comesIn 30 = .ok (.iload_n 2, 1) := by decide +kernel
theorem dX4_comesIn_31 : decode cX4_comesIn 31 = .ok (.iconst 3, 1) := by decide +kernel
theorem dX4_comesIn_32 : decode cX4_comesIn 32 = .ok (.iconst 0, 1) := by decide +kernel
theorem dX4_comesIn_33 : decode cX4_comesIn 33 = .ok (.invokevirtual 73, 3) := by decide +kernel
theorem dX4_comesIn_36 : decode cX4_comesIn 36 = .ok (.aload_n 0, 1) := by decide +kernel
theorem dX4_comesIn_37 : decode cX4_comesIn 37 = .ok (.getfield 7, 3) := by decide +kernel
theorem dX4_comesIn_40 : decode cX4_comesIn 40 = .ok (.iconst 0, 1) := by decide +kernel
theorem dX4_comesIn_41 : decode cX4_comesIn 41 = .ok (.dup2, 1) := by decide +kernel
theorem dX4_comesIn_42 : decode cX4_comesIn 42 = .ok (.iaload, 1) := by decide +kernel
theorem dX4_comesIn_43 : decode cX4_comesIn 43 = .ok (.iconst 1, 1) := by decide +kernel
theorem dX4_comesIn_44 : decode cX4_comesIn 44 = .ok (.iadd, 1) := by decide +kernel
theorem dX4_comesIn_45 : decode cX4_comesIn 45 = .ok (.iastore, 1) := by decide +kernel
theorem dX4_comesIn_46 : decode cX4_comesIn 46 = .ok (.iload_n 2, 1) := by decide +kernel
theorem dX4_comesIn_47 : decode cX4_comesIn 47 = .ok (.ireturn, 1) := by decide +kernel
theorem dX4_person_0 : decode cX4_person 0 = .ok (.iload_n 1, 1) := by decide +kernel
theorem dX4_person_1 : decode cX4_person 1 = .ok (.i2l, 1) := by decide +kernel
theorem dX4_person_2 : decode cX4_person 2 = .ok (.lconst 0, 1) := by decide +kernel
theorem dX4_person_3 : decode cX4_person 3 = .ok (.ldc2_w 105, 3) := by decide +kernel
theorem dX4_person_6 : decode cX4_person 6 = .ok (.invokestatic 46, 3) := by decide +kernel
theorem dX4_person_9 : decode cX4_person 9 = .ok (.ifCond .ne 9, 3) := by decide +kernel
theorem dX4_person_12 : decode cX4_person 12 = .ok (.aload_n 0, 1) := by decide +kernel
theorem dX4_person_13 : decode cX4_person 13 = .ok (.iconst 0, 1) := by decide +kernel
theorem dX4_person_14 : decode cX4_person 14 = .ok (.invokevirtual 92, 3) := by decide +kernel
theorem dX4_person_17 : decode cX4_person 17 = .ok (.ireturn, 1) := by decide +kernel
theorem dX4_person_18 : decode cX4_person 18 = .ok (.aload_n 0, 1) := by decide +kernel
theorem dX4_person_19 : decode cX4_person 19 = .ok (.getfield 7, 3) := by decide +kernel
theorem dX4_person_22 : decode cX4_person 22 = .ok (.iconst 0, 1) := by decide +kernel
theorem dX4_person_23 : decode cX4_person 23 = .ok (.iaload, 1) := by decide +kernel
theorem dX4_person_24 : decode cX4_person 24 = .ok (.bipush 8, 2) := by decide +kernel
theorem dX4_person_26 : decode cX4_person 26 = .ok (.if_icmp .ne 11, 3) := by decide +kernel
theorem dX4_person_29 : decode cX4_person 29 = .ok (.aload_n 0, 1) := by decide +kernel
theorem dX4_person_30 : decode cX4_person 30 = .ok (.iconst 1, 1) := by decide +kernel
theorem dX4_person_31 : decode cX4_person 31 = .ok (.invokevirtual 92, 3) := by decide +kernel
theorem dX4_person_34 : decode cX4_person 34 = .ok (.goto 8, 3) := by decide +kernel
theorem dX4_person_37 : decode cX4_person 37 = .ok (.aload_n 0, 1) := by decide +kernel
theorem dX4_person_38 : decode cX4_person 38 = .ok (.iload_n 1, 1) := by decide +kernel
theorem dX4_person_39 : decode cX4_person 39 = .ok (.invokevirtual 107, 3) := by decide +kernel
theorem dX4_person_42 : decode cX4_person 42 = .ok (.ireturn, 1) := by decide +kernel
theorem dX4_of_0 : decode cX4_of 0 = .ok (.aload_n 0, 1) := by decide +kernel
theorem dX4_of_1 : decode cX4_of 1 = .ok (.iload_n 1, 1) := by decide +kernel
theorem dX4_of_2 : decode cX4_of 2 = .ok (.invokevirtual 50, 3) := by decide +kernel
theorem dX4_of_5 : decode cX4_of 5 = .ok (.ifCond .eq 15, 3) := by decide +kernel
theorem dX4_of_8 : decode cX4_of 8 = .ok (.iload_n 2, 1) := by decide +kernel
theorem dX4_of_9 : decode cX4_of 9 = .ok (.i2l, 1) := by decide +kernel
theorem dX4_of_10 : decode cX4_of 10 = .ok (.lconst 0, 1) := by decide +kernel
theorem dX4_of_11 : decode cX4_of 11 = .ok (.ldc2_w 105, 3) := by decide +kernel
theorem dX4_of_14 : decode cX4_of 14 = .ok (.invokestatic 46, 3) := by decide +kernel
theorem dX4_of_17 : decode cX4_of 17 = .ok (.ifCond .ne 9, 3) := by decide +kernel
theorem dX4_of_20 : decode cX4_of 20 = .ok (.aload_n 0, 1) := by decide +kernel
theorem dX4_of_21 : decode cX4_of 21 = .ok (.iconst 0, 1) := by decide +kernel
theorem dX4_of_22 : decode cX4_of 22 = .ok (.invokevirtual 92, 3) := by decide +kernel
theorem dX4_of_25 : decode cX4_of 25 = .ok (.ireturn, 1) := by decide +kernel
theorem dX4_of_26 : decode cX4_of 26 = .ok (.iload_n 2, 1) := by decide +kernel
theorem dX4_of_27 : decode cX4_of 27 = .ok (.tableswitch 55 2 5 #[29, 55, 40, 46], 29) := by decide +kernel
theorem dX4_of_56 : decode cX4_of 56 = .ok (.sipush 10000, 3) := by decide +kernel
theorem dX4_of_59 : decode cX4_of 59 = .ok (.aload_n 0, 1) := by decide +kernel
theorem dX4_of_60 : decode cX4_of 60 = .ok (.iload_n 1, 1) := by decide +kernel
theorem dX4_of_61 : decode cX4_of 61 = .ok (.iconst 2, 1) := by decide +kernel
theorem dX4_of_62 : decode cX4_of 62 = .ok (.invokevirtual 54, 3) := by decide +kernel
theorem dX4_of_65 : decode cX4_of 65 = .ok (.iadd, 1) := by decide +kernel
theorem dX4_of_66 : decode cX4_of 66 = .ok (.ireturn, 1) := by decide +kernel
theorem dX4_of_67 : decode cX4_of 67 = .ok (.aload_n 0, 1) := by decide +kernel
theorem dX4_of_68 : decode cX4_of 68 = .ok (.iload_n 1, 1) := by decide +kernel
theorem dX4_of_69 : decode cX4_of 69 = .ok (.invokevirtual 66, 3) := by decide +kernel
theorem dX4_of_72 : decode cX4_of 72 = .ok (.ireturn, 1) := by decide +kernel
theorem dX4_of_73 : decode cX4_of 73 = .ok (.bipush 100, 2) := by decide +kernel
theorem dX4_of_75 : decode cX4_of 75 = .ok (.aload_n 0, 1) := by decide +kernel
theorem dX4_of_76 : decode cX4_of 76 = .ok (.iload_n 1, 1) := by decide +kernel
theorem dX4_of_77 : decode cX4_of 77 = .ok (.invokevirtual 77, 3) := by decide +kernel
theorem dX4_of_80 : decode cX4_of 80 = .ok (.iadd, 1) := by decide +kernel
theorem dX4_of_81 : decode cX4_of 81 = .ok (.ireturn, 1) := by decide +kernel
theorem dX4_of_82 : decode cX4_of 82 = .ok (.aload_n 0, 1) := by decide +kernel
theorem dX4_of_83 : decode cX4_of 83 = .ok (.iload_n 1, 1) := by decide +kernel
theorem dX4_of_84 : decode cX4_of 84 = .ok (.iload_n 2, 1) := by decide +kernel
theorem dX4_of_85 : decode cX4_of 85 = .ok (.invokevirtual 54, 3) := by decide +kernel
theorem dX4_of_88 : decode cX4_of 88 = .ok (.ireturn, 1) := by decide +kernel
theorem dX4_scores_0 : decode cX4_scores 0 = .ok (.aload_n 0, 1) := by decide +kernel
theorem dX4_scores_1 : decode cX4_scores 1 = .ok (.iload_n 1, 1) := by decide +kernel
theorem dX4_scores_2 : decode cX4_scores 2 = .ok (.invokevirtual 50, 3) := by decide +kernel
theorem dX4_scores_5 : decode cX4_scores 5 = .ok (.ifCond .eq 30, 3) := by decide +kernel
theorem dX4_scores_8 : decode cX4_scores 8 = .ok (.iload_n 2, 1) := by decide +kernel
theorem dX4_scores_9 : decode cX4_scores 9 = .ok (.invokestatic 110, 3) := by decide +kernel
theorem dX4_scores_12 : decode cX4_scores 12 = .ok (.ifCond .eq 23, 3) := by decide +kernel
theorem dX4_scores_15 : decode cX4_scores 15 = .ok (.iload_n 3, 1) := by decide +kernel
theorem dX4_scores_16 : decode cX4_scores 16 = .ok (.invokestatic 110, 3) := by decide +kernel
theorem dX4_scores_19 : decode cX4_scores 19 = .ok (.ifCond .eq 16, 3) := by decide +kernel
theorem dX4_scores_22 : decode cX4_scores 22 = .ok (.bipush 100, 2) := by decide +kernel
theorem dX4_scores_24 : decode cX4_scores 24 = .ok (.aload_n 0, 1) := by decide +kernel
theorem dX4_scores_25 : decode cX4_scores 25 = .ok (.iload_n 1, 1) := by decide +kernel
theorem dX4_scores_26 : decode cX4_scores 26 = .ok (.iload_n 2, 1) := by decide +kernel
theorem dX4_scores_27 : decode cX4_scores 27 = .ok (.iload_n 3, 1) := by decide +kernel
theorem dX4_scores_28 : decode cX4_scores 28 = .ok (.invokevirtual 70, 3) := by decide +kernel
theorem dX4_scores_31 : decode cX4_scores 31 = .ok (.iadd, 1) := by decide +kernel
theorem dX4_scores_32 : decode cX4_scores 32 = .ok (.goto 8, 3) := by decide +kernel
theorem dX4_scores_35 : decode cX4_scores 35 = .ok (.aload_n 0, 1) := by decide +kernel
theorem dX4_scores_36 : decode cX4_scores 36 = .ok (.iconst 0, 1) := by decide +kernel
theorem dX4_scores_37 : decode cX4_scores 37 = .ok (.invokevirtual 92, 3) := by decide +kernel
theorem dX4_scores_40 : decode cX4_scores 40 = .ok (.ireturn, 1) := by decide +kernel
theorem dX4_set_0 : decode cX4_set 0 = .ok (.iload_n 2, 1) := by decide +kernel
theorem dX4_set_1 : decode cX4_set 1 = .ok (.iconst 1, 1) := by decide +kernel
theorem dX4_set_2 : decode cX4_set 2 = .ok (.if_icmp .ne 15, 3) := by decide +kernel
theorem dX4_set_5 : decode cX4_set 5 = .ok (.iload_n 3, 1) := by decide +kernel
theorem dX4_set_6 : decode cX4_set 6 = .ok (.i2l, 1) := by decide +kernel
theorem dX4_set_7 : decode cX4_set 7 = .ok (.lconst 0, 1) := by decide +kernel
theorem dX4_set_8 : decode cX4_set 8 = .ok (.ldc2_w 113, 3) := by decide +kernel
theorem dX4_set_11 : decode cX4_set 11 = .ok (.invokestatic 46, 3) := by decide +kernel
theorem dX4_set_14 : decode cX4_set 14 = .ok (.goto 39, 3) := by decide +kernel
theorem dX4_set_17 : decode cX4_set 17 = .ok (.iload_n 2, 1) := by decide +kernel
theorem dX4_set_18 : decode cX4_set 18 = .ok (.iconst 2, 1) := by decide +kernel
theorem dX4_set_19 : decode cX4_set 19 = .ok (.if_icmp .ne 17, 3) := by decide +kernel
theorem dX4_set_22 : decode cX4_set 22 = .ok (.iload_n 3, 1) := by decide +kernel
theorem dX4_set_23 : decode cX4_set 23 = .ok (.i2l, 1) := by decide +kernel
theorem dX4_set_24 : decode cX4_set 24 = .ok (.ldc2_w 115, 3) := by decide +kernel
theorem dX4_set_27 : decode cX4_set 27 = .ok (.ldc2_w 117, 3) := by decide +kernel
theorem dX4_set_30 : decode cX4_set 30 = .ok (.invokestatic 46, 3) := by decide +kernel
theorem dX4_set_33 : decode cX4_set 33 = .ok (.goto 20, 3) := by decide +kernel
theorem dX4_set_36 : decode cX4_set 36 = .ok (.iload_n 2, 1) := by decide +kernel
theorem dX4_set_37 : decode cX4_set 37 = .ok (.iconst 3, 1) := by decide +kernel
theorem dX4_set_38 : decode cX4_set 38 = .ok (.if_icmp .ne 14, 3) := by decide +kernel
theorem dX4_set_41 : decode cX4_set 41 = .ok (.iload_n 3, 1) := by decide +kernel
theorem dX4_set_42 : decode cX4_set 42 = .ok (.invokestatic 110, 3) := by decide +kernel
theorem dX4_set_45 : decode cX4_set 45 = .ok (.ifCond .eq 7, 3) := by decide +kernel
theorem dX4_set_48 : decode cX4_set 48 = .ok (.iconst 1, 1) := by decide +kernel
theorem dX4_set_49 : decode cX4_set 49 = .ok (.goto 4, 3) := by decide +kernel
theorem dX4_set_52 : decode cX4_set 52 = .ok (.iconst 0, 1) := by decide +kernel
theorem dX4_set_53 : decode cX4_set 53 = .ok (.istore 4, 2) := by decide +kernel
theorem dX4_set_55 : decode cX4_set 55 = .ok (.aload_n 0, 1) := by decide +kernel
theorem dX4_set_56 : decode cX4_set 56 = .ok (.iload_n 1, 1) := by decide +kernel
theorem dX4_set_57 : decode cX4_set 57 = .ok (.invokevirtual 50, 3) := by decide +kernel
theorem dX4_set_60 : decode cX4_set 60 = .ok (.ifCond .eq 24, 3) := by decide +kernel
theorem dX4_set_63 : decode cX4_set 63 = .ok (.iload 4, 2) := by decide +kernel
theorem dX4_set_65 : decode cX4_set 65 = .ok (.ifCond .eq 19, 3) := by decide +kernel
theorem dX4_set_68 : decode cX4_set 68 = .ok (.aload_n 0, 1) := by decide +kernel
theorem dX4_set_69 : decode cX4_set 69 = .ok (.bipush 35, 2) := by decide +kernel
theorem dX4_set_71 : decode cX4_set 71 = .ok (.iconst 4, 1) := by decide +kernel
theorem dX4_set_72 : decode cX4_set 72 = .ok (.iload_n 1, 1) := by decide +kernel
theorem dX4_set_73 : decode cX4_set 73 = .ok (.imul, 1) := by decide +kernel
theorem dX4_set_74 : decode cX4_set 74 = .ok (.iadd, 1) := by decide +kernel
theorem dX4_set_75 : decode cX4_set 75 = .ok (.iload_n 2, 1) := by decide +kernel
theorem dX4_set_76 : decode cX4_set 76 = .ok (.iadd, 1) := by decide +kernel
theorem dX4_set_77 : decode cX4_set 77 = .ok (.iload_n 3, 1) := by decide +kernel
theorem dX4_set_78 : decode cX4_set 78 = .ok (.invokevirtual 95, 3) := by decide +kernel
theorem dX4_set_81 : decode cX4_set 81 = .ok (.goto 8, 3) := by decide +kernel
theorem dX4_set_84 : decode cX4_set 84 = .ok (.aload_n 0, 1) := by decide +kernel
theorem dX4_set_85 : decode cX4_set 85 = .ok (.iconst 0, 1) := by decide +kernel
theorem dX4_set_86 : decode cX4_set 86 = .ok (.invokevirtual 92, 3) := by decide +kernel
theorem dX4_set_89 : decode cX4_set 89 = .ok (.ireturn, 1) := by decide +kernel
theorem dX4_turn_0 : decode cX4_turn 0 = .ok (.aload_n 0, 1) := by decide +kernel
theorem dX4_turn_1 : decode cX4_turn 1 = .ok (.iload_n 1, 1) := by decide +kernel
theorem dX4_turn_2 : decode cX4_turn 2 = .ok (.invokevirtual 50, 3) := by decide +kernel
theorem dX4_turn_5 : decode cX4_turn 5 = .ok (.ifCond .eq 29, 3) := by decide +kernel
theorem dX4_turn_8 : decode cX4_turn 8 = .ok (.iload_n 2, 1) := by decide +kernel
theorem dX4_turn_9 : decode cX4_turn 9 = .ok (.i2l, 1) := by decide +kernel
theorem dX4_turn_10 : decode cX4_turn 10 = .ok (.lconst 0, 1) := by decide +kernel
theorem dX4_turn_11 : decode cX4_turn 11 = .ok (.ldc2_w 105, 3) := by decide +kernel
theorem dX4_turn_14 : decode cX4_turn 14 = .ok (.invokestatic 46, 3) := by decide +kernel
theorem dX4_turn_17 : decode cX4_turn 17 = .ok (.ifCond .eq 17, 3) := by decide +kernel
theorem dX4_turn_20 : decode cX4_turn 20 = .ok (.aload_n 0, 1) := by decide +kernel
theorem dX4_turn_21 : decode cX4_turn 21 = .ok (.bipush 35, 2) := by decide +kernel
theorem dX4_turn_23 : decode cX4_turn 23 = .ok (.iconst 4, 1) := by decide +kernel
theorem dX4_turn_24 : decode cX4_turn 24 = .ok (.iload_n 1, 1) := by decide +kernel
theorem dX4_turn_25 : decode cX4_turn 25 = .ok (.imul, 1) := by decide +kernel
theorem dX4_turn_26 : decode cX4_turn 26 = .ok (.iadd, 1) := by decide +kernel
theorem dX4_turn_27 : decode cX4_turn 27 = .ok (.iload_n 2, 1) := by decide +kernel
theorem dX4_turn_28 : decode cX4_turn 28 = .ok (.invokevirtual 95, 3) := by decide +kernel
theorem dX4_turn_31 : decode cX4_turn 31 = .ok (.goto 8, 3) := by decide +kernel
theorem dX4_turn_34 : decode cX4_turn 34 = .ok (.aload_n 0, 1) := by decide +kernel
theorem dX4_turn_35 : decode cX4_turn 35 = .ok (.iconst 0, 1) := by decide +kernel
theorem dX4_turn_36 : decode cX4_turn 36 = .ok (.invokevirtual 92, 3) := by decide +kernel
theorem dX4_turn_39 : decode cX4_turn 39 = .ok (.ireturn, 1) := by decide +kernel
theorem dX4_as_0 : decode cX4_as 0 = .ok (.aload_n 0, 1) := by decide +kernel
theorem dX4_as_1 : decode cX4_as 1 = .ok (.iload_n 1, 1) := by decide +kernel
theorem dX4_as_2 : decode cX4_as 2 = .ok (.invokevirtual 50, 3) := by decide +kernel
theorem dX4_as_5 : decode cX4_as 5 = .ok (.ifCond .eq 15, 3) := by decide +kernel
theorem dX4_as_8 : decode cX4_as 8 = .ok (.iload_n 2, 1) := by decide +kernel
theorem dX4_as_9 : decode cX4_as 9 = .ok (.i2l, 1) := by decide +kernel
theorem dX4_as_10 : decode cX4_as 10 = .ok (.lconst 0, 1) := by decide +kernel
theorem dX4_as_11 : decode cX4_as 11 = .ok (.ldc2_w 105, 3) := by decide +kernel
theorem dX4_as_14 : decode cX4_as 14 = .ok (.invokestatic 46, 3) := by decide +kernel
theorem dX4_as_17 : decode cX4_as 17 = .ok (.ifCond .ne 9, 3) := by decide +kernel
theorem dX4_as_20 : decode cX4_as 20 = .ok (.aload_n 0, 1) := by decide +kernel
theorem dX4_as_21 : decode cX4_as 21 = .ok (.iconst 0, 1) := by decide +kernel
theorem dX4_as_22 : decode cX4_as 22 = .ok (.invokevirtual 92, 3) := by decide +kernel
theorem dX4_as_25 : decode cX4_as 25 = .ok (.ireturn, 1) := by decide +kernel
theorem dX4_as_26 : decode cX4_as 26 = .ok (.aload_n 0, 1) := by decide +kernel
theorem dX4_as_27 : decode cX4_as 27 = .ok (.iload_n 1, 1) := by decide +kernel
theorem dX4_as_28 : decode cX4_as 28 = .ok (.iconst 0, 1) := by decide +kernel
theorem dX4_as_29 : decode cX4_as 29 = .ok (.invokevirtual 54, 3) := by decide +kernel
theorem dX4_as_32 : decode cX4_as 32 = .ok (.istore_n 3, 1) := by decide +kernel
theorem dX4_as_33 : decode cX4_as 33 = .ok (.iload_n 2, 1) := by decide +kernel
theorem dX4_as_34 : decode cX4_as 34 = .ok (.ifCond .eq 20, 3) := by decide +kernel
theorem dX4_as_37 : decode cX4_as 37 = .ok (.iload_n 3, 1) := by decide +kernel
theorem dX4_as_38 : decode cX4_as 38 = .ok (.iload_n 2, 1) := by decide +kernel
theorem dX4_as_39 : decode cX4_as 39 = .ok (.if_icmp .eq 15, 3) := by decide +kernel
theorem dX4_as_42 : decode cX4_as 42 = .ok (.iload_n 3, 1) := by decide +kernel
theorem dX4_as_43 : decode cX4_as 43 = .ok (.iload_n 2, 1) := by decide +kernel
theorem dX4_as_44 : decode cX4_as 44 = .ok (.iconst 3, 1) := by decide +kernel
theorem dX4_as_45 : decode cX4_as 45 = .ok (.iadd, 1) := by decide +kernel
theorem dX4_as_46 : decode cX4_as 46 = .ok (.if_icmp .ne 17, 3) := by decide +kernel
theorem dX4_as_49 : decode cX4_as 49 = .ok (.iload_n 2, 1) := by decide +kernel
theorem dX4_as_50 : decode cX4_as 50 = .ok (.iconst 3, 1) := by decide +kernel
theorem dX4_as_51 : decode cX4_as 51 = .ok (.if_icmp .ge 12, 3) := by decide +kernel
theorem dX4_as_54 : decode cX4_as 54 = .ok (.aload_n 0, 1) := by decide +kernel
theorem dX4_as_55 : decode cX4_as 55 = .ok (.iload_n 1, 1) := by decide +kernel
theorem dX4_as_56 : decode cX4_as 56 = .ok (.iconst 1, 1) := by decide +kernel
theorem dX4_as_57 : decode cX4_as 57 = .ok (.invokevirtual 54, 3) := by decide +kernel
theorem dX4_as_60 : decode cX4_as 60 = .ok (.goto 8, 3) := by decide +kernel
theorem dX4_as_63 : decode cX4_as 63 = .ok (.aload_n 0, 1) := by decide +kernel
theorem dX4_as_64 : decode cX4_as 64 = .ok (.iconst 2, 1) := by decide +kernel
theorem dX4_as_65 : decode cX4_as 65 = .ok (.invokevirtual 92, 3) := by decide +kernel
theorem dX4_as_68 : decode cX4_as 68 = .ok (.ireturn, 1) := by decide +kernel
theorem dX4_swaps_0 : decode cX4_swaps 0 = .ok (.iconst 0, 1) := by decide +kernel
theorem dX4_swaps_1 : decode cX4_swaps 1 = .ok (.istore_n 3, 1) := by decide +kernel
theorem dX4_swaps_2 : decode cX4_swaps 2 = .ok (.iload_n 3, 1) := by decide +kernel
theorem dX4_swaps_3 : decode cX4_swaps 3 = .ok (.iconst 4, 1) := by decide +kernel
theorem dX4_swaps_4 : decode cX4_swaps 4 = .ok (.if_icmp .ge 37, 3) := by decide +kernel
theorem dX4_swaps_7 : decode cX4_swaps 7 = .ok (.aload_n 0, 1) := by decide +kernel
theorem dX4_swaps_8 : decode cX4_swaps 8 = .ok (.iload_n 1, 1) := by decide +kernel
theorem dX4_swaps_9 : decode cX4_swaps 9 = .ok (.iload_n 3, 1) := by decide +kernel
theorem dX4_swaps_10 : decode cX4_swaps 10 = .ok (.invokevirtual 54, 3) := by decide +kernel
theorem dX4_swaps_13 : decode cX4_swaps 13 = .ok (.istore 4, 2) := by decide +kernel
theorem dX4_swaps_15 : decode cX4_swaps 15 = .ok (.aload_n 0, 1) := by decide +kernel
theorem dX4_swaps_16 : decode cX4_swaps 16 = .ok (.iload_n 1, 1) := by decide +kernel
theorem dX4_swaps_17 : decode cX4_swaps 17 = .ok (.iload_n 3, 1) := by decide +kernel
theorem dX4_swaps_18 : decode cX4_swaps 18 = .ok (.aload_n 0, 1) := by decide +kernel
theorem dX4_swaps_19 : decode cX4_swaps 19 = .ok (.iload_n 2, 1) := by decide +kernel
theorem dX4_swaps_20 : decode cX4_swaps 20 = .ok (.iload_n 3, 1) := by decide +kernel
theorem dX4_swaps_21 : decode cX4_swaps 21 = .ok (.invokevirtual 54, 3) := by decide +kernel
theorem dX4_swaps_24 : decode cX4_swaps 24 = .ok (.invokevirtual 73, 3) := by decide +kernel
theorem dX4_swaps_27 : decode cX4_swaps 27 = .ok (.aload_n 0, 1) := by decide +kernel
theorem dX4_swaps_28 : decode cX4_swaps 28 = .ok (.iload_n 2, 1) := by decide +kernel
theorem dX4_swaps_29 : decode cX4_swaps 29 = .ok (.iload_n 3, 1) := by decide +kernel
theorem dX4_swaps_30 : decode cX4_swaps 30 = .ok (.iload 4, 2) := by decide +kernel
theorem dX4_swaps_32 : decode cX4_swaps 32 = .ok (.invokevirtual 73, 3) := by decide +kernel
theorem dX4_swaps_35 : decode cX4_swaps 35 = .ok (.iinc 3 1, 3) := by decide +kernel
theorem dX4_swaps_38 : decode cX4_swaps 38 = .ok (.goto (-36), 3) := by decide +kernel
theorem dX4_swaps_41 : decode cX4_swaps 41 = .ok (.return_, 1) := by decide +kernel
theorem dX4_swap_0 : decode cX4_swap 0 = .ok (.aload_n 0, 1) := by decide +kernel
theorem dX4_swap_1 : decode cX4_swap 1 = .ok (.iload_n 1, 1) := by decide +kernel
theorem dX4_swap_2 : decode cX4_swap 2 = .ok (.invokevirtual 50, 3) := by decide +kernel
theorem dX4_swap_5 : decode cX4_swap 5 = .ok (.ifCond .eq 16, 3) := by decide +kernel
theorem dX4_swap_8 : decode cX4_swap 8 = .ok (.aload_n 0, 1) := by decide +kernel
theorem dX4_swap_9 : decode cX4_swap 9 = .ok (.iload_n 2, 1) := by decide +kernel
theorem dX4_swap_10 : decode cX4_swap 10 = .ok (.invokevirtual 50, 3) := by decide +kernel
theorem dX4_swap_13 : decode cX4_swap 13 = .ok (.ifCond .eq 8, 3) := by decide +kernel
theorem dX4_swap_16 : decode cX4_swap 16 = .ok (.iload_n 1, 1) := by decide +kernel
theorem dX4_swap_17 : decode cX4_swap 17 = .ok (.iload_n 2, 1) := by decide +kernel
theorem dX4_swap_18 : decode cX4_swap 18 = .ok (.if_icmp .ne 9, 3) := by decide +kernel
theorem dX4_swap_21 : decode cX4_swap 21 = .ok (.aload_n 0, 1) := by decide +kernel
theorem dX4_swap_22 : decode cX4_swap 22 = .ok (.iconst 0, 1) := by decide +kernel
theorem dX4_swap_23 : decode cX4_swap 23 = .ok (.invokevirtual 92, 3) := by decide +kernel
theorem dX4_swap_26 : decode cX4_swap 26 = .ok (.ireturn, 1) := by decide +kernel
theorem dX4_swap_27 : decode cX4_swap 27 = .ok (.aload_n 0, 1) := by decide +kernel
theorem dX4_swap_28 : decode cX4_swap 28 = .ok (.iload_n 1, 1) := by decide +kernel
theorem dX4_swap_29 : decode cX4_swap 29 = .ok (.iload_n 2, 1) := by decide +kernel
theorem dX4_swap_30 : decode cX4_swap 30 = .ok (.invokevirtual 119, 3) := by decide +kernel
theorem dX4_swap_33 : decode cX4_swap 33 = .ok (.iconst 1, 1) := by decide +kernel
theorem dX4_swap_34 : decode cX4_swap 34 = .ok (.ireturn, 1) := by decide +kernel
theorem dX4_moments_0 : decode cX4_moments 0 = .ok (.iload_n 1, 1) := by decide +kernel
theorem dX4_moments_1 : decode cX4_moments 1 = .ok (.i2l, 1) := by decide +kernel
theorem dX4_moments_2 : decode cX4_moments 2 = .ok (.lconst 1, 1) := by decide +kernel
theorem dX4_moments_3 : decode cX4_moments 3 = .ok (.ldc2_w 123, 3) := by decide +kernel
theorem dX4_moments_6 : decode cX4_moments 6 = .ok (.invokestatic 46, 3) := by decide +kernel
theorem dX4_moments_9 : decode cX4_moments 9 = .ok (.ifCond .ne 9, 3) := by decide +kernel
theorem dX4_moments_12 : decode cX4_moments 12 = .ok (.aload_n 0, 1) := by decide +kernel
theorem dX4_moments_13 : decode cX4_moments 13 = .ok (.iconst 0, 1) := by decide +kernel
theorem dX4_moments_14 : decode cX4_moments 14 = .ok (.invokevirtual 92, 3) := by decide +kernel
theorem dX4_moments_17 : decode cX4_moments 17 = .ok (.ireturn, 1) := by decide +kernel
theorem dX4_moments_18 : decode cX4_moments 18 = .ok (.aload_n 0, 1) := by decide +kernel
theorem dX4_moments_19 : decode cX4_moments 19 = .ok (.getfield 7, 3) := by decide +kernel
theorem dX4_moments_22 : decode cX4_moments 22 = .ok (.iconst 1, 1) := by decide +kernel
theorem dX4_moments_23 : decode cX4_moments 23 = .ok (.iaload, 1) := by decide +kernel
theorem dX4_moments_24 : decode cX4_moments 24 = .ok (.aload_n 0, 1) := by decide +kernel
theorem dX4_moments_25 : decode cX4_moments 25 = .ok (.getfield 7, 3) := by decide +kernel
theorem dX4_moments_28 : decode cX4_moments 28 = .ok (.iconst 2, 1) := by decide +kernel
theorem dX4_moments_29 : decode cX4_moments 29 = .ok (.iaload, 1) := by decide +kernel
theorem dX4_moments_30 : decode cX4_moments 30 = .ok (.iload_n 1, 1) := by decide +kernel
theorem dX4_moments_31 : decode cX4_moments 31 = .ok (.iadd, 1) := by decide +kernel
theorem dX4_moments_32 : decode cX4_moments 32 = .ok (.bipush 16, 2) := by decide +kernel
theorem dX4_moments_34 : decode cX4_moments 34 = .ok (.idiv, 1) := by decide +kernel
theorem dX4_moments_35 : decode cX4_moments 35 = .ok (.iadd, 1) := by decide +kernel
theorem dX4_moments_36 : decode cX4_moments 36 = .ok (.sipush 9999, 3) := by decide +kernel
theorem dX4_moments_39 : decode cX4_moments 39 = .ok (.if_icmp .le 9, 3) := by decide +kernel
theorem dX4_moments_42 : decode cX4_moments 42 = .ok (.aload_n 0, 1) := by decide +kernel
theorem dX4_moments_43 : decode cX4_moments 43 = .ok (.iconst 4, 1) := by decide +kernel
theorem dX4_moments_44 : decode cX4_moments 44 = .ok (.invokevirtual 92, 3) := by decide +kernel
theorem dX4_moments_47 : decode cX4_moments 47 = .ok (.ireturn, 1) := by decide +kernel
theorem dX4_moments_48 : decode cX4_moments 48 = .ok (.aload_n 0, 1) := by decide +kernel
theorem dX4_moments_49 : decode cX4_moments 49 = .ok (.iload_n 1, 1) := by decide +kernel
theorem dX4_moments_50 : decode cX4_moments 50 = .ok (.invokevirtual 125, 3) := by decide +kernel
theorem dX4_moments_53 : decode cX4_moments 53 = .ok (.aload_n 0, 1) := by decide +kernel
theorem dX4_moments_54 : decode cX4_moments 54 = .ok (.getfield 7, 3) := by decide +kernel
theorem dX4_moments_57 : decode cX4_moments 57 = .ok (.iconst 2, 1) := by decide +kernel
theorem dX4_moments_58 : decode cX4_moments 58 = .ok (.iaload, 1) := by decide +kernel
theorem dX4_moments_59 : decode cX4_moments 59 = .ok (.ireturn, 1) := by decide +kernel
theorem dX4_behind_0 : decode cX4_behind 0 = .ok (.aload_n 0, 1) := by decide +kernel
theorem dX4_behind_1 : decode cX4_behind 1 = .ok (.iload_n 1, 1) := by decide +kernel
theorem dX4_behind_2 : decode cX4_behind 2 = .ok (.invokevirtual 125, 3) := by decide +kernel
theorem dX4_behind_5 : decode cX4_behind 5 = .ok (.aload_n 0, 1) := by decide +kernel
theorem dX4_behind_6 : decode cX4_behind 6 = .ok (.getfield 7, 3) := by decide +kernel
theorem dX4_behind_9 : decode cX4_behind 9 = .ok (.iload_n 2, 1) := by decide +kernel
theorem dX4_behind_10 : decode cX4_behind 10 = .ok (.iaload, 1) := by decide +kernel
theorem dX4_behind_11 : decode cX4_behind 11 = .ok (.istore_n 3, 1) := by decide +kernel
theorem dX4_behind_12 : decode cX4_behind 12 = .ok (.aload_n 0, 1) := by decide +kernel
theorem dX4_behind_13 : decode cX4_behind 13 = .ok (.getfield 16, 3) := by decide +kernel
theorem dX4_behind_16 : decode cX4_behind 16 = .ok (.aload_n 0, 1) := by decide +kernel
theorem dX4_behind_17 : decode cX4_behind 17 = .ok (.getfield 7, 3) := by decide +kernel
theorem dX4_behind_20 : decode cX4_behind 20 = .ok (.invokestatic 129, 3) := by decide +kernel
theorem dX4_behind_23 : decode cX4_behind 23 = .ok (.iload_n 3, 1) := by decide +kernel
theorem dX4_behind_24 : decode cX4_behind 24 = .ok (.ireturn, 1) := by decide +kernel
theorem dX4_houseBehind_0 : decode cX4_houseBehind 0 = .ok (.aload_n 0, 1) := by decide +kernel
theorem dX4_houseBehind_1 : decode cX4_houseBehind 1 = .ok (.iload_n 1, 1) := by decide +kernel
theorem dX4_houseBehind_2 : decode cX4_houseBehind 2 = .ok (.invokevirtual 125, 3) := by decide +kernel
theorem dX4_houseBehind_5 : decode cX4_houseBehind 5 = .ok (.aload_n 0, 1) := by decide +kernel
theorem dX4_houseBehind_6 : decode cX4_houseBehind 6 = .ok (.iconst 2, 1) := by decide +kernel
theorem dX4_houseBehind_7 : decode cX4_houseBehind 7 = .ok (.invokevirtual 98, 3) := by decide +kernel
theorem dX4_houseBehind_10 : decode cX4_houseBehind 10 = .ok (.istore_n 2, 1) := by decide +kernel
theorem dX4_houseBehind_11 : decode cX4_houseBehind 11 = .ok (.aload_n 0, 1) := by decide +kernel
theorem dX4_houseBehind_12 : decode cX4_houseBehind 12 = .ok (.getfield 16, 3) := by decide +kernel
theorem dX4_houseBehind_15 : decode cX4_houseBehind 15 = .ok (.aload_n 0, 1) := by decide +kernel
theorem dX4_houseBehind_16 : decode cX4_houseBehind 16 = .ok (.getfield 7, 3) := by decide +kernel
theorem dX4_houseBehind_19 : decode cX4_houseBehind 19 = .ok (.invokestatic 129, 3) := by decide +kernel
theorem dX4_houseBehind_22 : decode cX4_houseBehind 22 = .ok (.iload_n 2, 1) := by decide +kernel
theorem dX4_houseBehind_23 : decode cX4_houseBehind 23 = .ok (.ireturn, 1) := by decide +kernel
theorem dX4_isAhead_0 : decode cX4_isAhead 0 = .ok (.iload_n 0, 1) := by decide +kernel
theorem dX4_isAhead_1 : decode cX4_isAhead 1 = .ok (.i2l, 1) := by decide +kernel
theorem dX4_isAhead_2 : decode cX4_isAhead 2 = .ok (.lconst 0, 1) := by decide +kernel
theorem dX4_isAhead_3 : decode cX4_isAhead 3 = .ok (.ldc2_w 133, 3) := by decide +kernel
theorem dX4_isAhead_6 : decode cX4_isAhead 6 = .ok (.invokestatic 46, 3) := by decide +kernel
theorem dX4_isAhead_9 : decode cX4_isAhead 9 = .ok (.ireturn, 1) := by decide +kernel
theorem dX4_isShort_0 : decode cX4_isShort 0 = .ok (.iload_n 0, 1) := by decide +kernel
theorem dX4_isShort_1 : decode cX4_isShort 1 = .ok (.i2l, 1) := by decide +kernel
theorem dX4_isShort_2 : decode cX4_isShort 2 = .ok (.lconst 1, 1) := by decide +kernel
theorem dX4_isShort_3 : decode cX4_isShort 3 = .ok (.ldc2_w 135, 3) := by decide +kernel
theorem dX4_isShort_6 : decode cX4_isShort 6 = .ok (.invokestatic 46, 3) := by decide +kernel
theorem dX4_isShort_9 : decode cX4_isShort 9 = .ok (.ireturn, 1) := by decide +kernel
theorem dX4_whereNote_0 : decode cX4_whereNote 0 = .ok (.bipush 35, 2) := by decide +kernel
theorem dX4_whereNote_2 : decode cX4_whereNote 2 = .ok (.iconst 4, 1) := by decide +kernel
theorem dX4_whereNote_3 : decode cX4_whereNote 3 = .ok (.iload_n 1, 1) := by decide +kernel
theorem dX4_whereNote_4 : decode cX4_whereNote 4 = .ok (.imul, 1) := by decide +kernel
theorem dX4_whereNote_5 : decode cX4_whereNote 5 = .ok (.iadd, 1) := by decide +kernel
theorem dX4_whereNote_6 : decode cX4_whereNote 6 = .ok (.iconst 2, 1) := by decide +kernel
theorem dX4_whereNote_7 : decode cX4_whereNote 7 = .ok (.iadd, 1) := by decide +kernel
theorem dX4_whereNote_8 : decode cX4_whereNote 8 = .ok (.ireturn, 1) := by decide +kernel
theorem dX4_note_0 : decode cX4_note 0 = .ok (.aload_n 0, 1) := by decide +kernel
theorem dX4_note_1 : decode cX4_note 1 = .ok (.iload_n 1, 1) := by decide +kernel
theorem dX4_note_2 : decode cX4_note 2 = .ok (.invokevirtual 50, 3) := by decide +kernel
theorem dX4_note_5 : decode cX4_note 5 = .ok (.ifCond .eq 10, 3) := by decide +kernel
theorem dX4_note_8 : decode cX4_note 8 = .ok (.iload_n 2, 1) := by decide +kernel
theorem dX4_note_9 : decode cX4_note 9 = .ok (.invokestatic 137, 3) := by decide +kernel
theorem dX4_note_12 : decode cX4_note 12 = .ok (.ifCond .ne 9, 3) := by decide +kernel
theorem dX4_note_15 : decode cX4_note 15 = .ok (.aload_n 0, 1) := by decide +kernel
theorem dX4_note_16 : decode cX4_note 16 = .ok (.iconst 0, 1) := by decide +kernel
theorem dX4_note_17 : decode cX4_note 17 = .ok (.invokevirtual 92, 3) := by decide +kernel
theorem dX4_note_20 : decode cX4_note 20 = .ok (.ireturn, 1) := by decide +kernel
theorem dX4_note_21 : decode cX4_note 21 = .ok (.aload_n 0, 1) := by decide +kernel
theorem dX4_note_22 : decode cX4_note 22 = .ok (.getfield 7, 3) := by decide +kernel
theorem dX4_note_25 : decode cX4_note 25 = .ok (.aload_n 0, 1) := by decide +kernel
theorem dX4_note_26 : decode cX4_note 26 = .ok (.getfield 16, 3) := by decide +kernel
theorem dX4_note_29 : decode cX4_note 29 = .ok (.invokestatic 129, 3) := by decide +kernel
theorem dX4_note_32 : decode cX4_note 32 = .ok (.aload_n 0, 1) := by decide +kernel
theorem dX4_note_33 : decode cX4_note 33 = .ok (.iload_n 2, 1) := by decide +kernel
theorem dX4_note_34 : decode cX4_note 34 = .ok (.aload_n 0, 1) := by decide +kernel
theorem dX4_note_35 : decode cX4_note 35 = .ok (.iload_n 1, 1) := by decide +kernel
theorem dX4_note_36 : decode cX4_note 36 = .ok (.invokevirtual 140, 3) := by decide +kernel
theorem dX4_note_39 : decode cX4_note 39 = .ok (.invokevirtual 143, 3) := by decide +kernel
theorem dX4_note_42 : decode cX4_note 42 = .ok (.ireturn, 1) := by decide +kernel
theorem dX4_on_0 : decode cX4_on 0 = .ok (.aload_n 0, 1) := by decide +kernel
theorem dX4_on_1 : decode cX4_on 1 = .ok (.iload_n 1, 1) := by decide +kernel
theorem dX4_on_2 : decode cX4_on 2 = .ok (.invokevirtual 50, 3) := by decide +kernel
theorem dX4_on_5 : decode cX4_on 5 = .ok (.ifCond .eq 20, 3) := by decide +kernel
theorem dX4_on_8 : decode cX4_on 8 = .ok (.iload_n 2, 1) := by decide +kernel
theorem dX4_on_9 : decode cX4_on 9 = .ok (.invokestatic 137, 3) := by decide +kernel
theorem dX4_on_12 : decode cX4_on 12 = .ok (.ifCond .eq 13, 3) := by decide +kernel
theorem dX4_on_15 : decode cX4_on 15 = .ok (.iload_n 3, 1) := by decide +kernel
theorem dX4_on_16 : decode cX4_on 16 = .ok (.i2l, 1) := by decide +kernel
theorem dX4_on_17 : decode cX4_on 17 = .ok (.lconst 0, 1) := by decide +kernel
theorem dX4_on_18 : decode cX4_on 18 = .ok (.lconst 1, 1) := by decide +kernel
theorem dX4_on_19 : decode cX4_on 19 = .ok (.invokestatic 46, 3) := by decide +kernel
theorem dX4_on_22 : decode cX4_on 22 = .ok (.ifCond .ne 9, 3) := by decide +kernel
theorem dX4_on_25 : decode cX4_on 25 = .ok (.aload_n 0, 1) := by decide +kernel
theorem dX4_on_26 : decode cX4_on 26 = .ok (.iconst 0, 1) := by decide +kernel
theorem dX4_on_27 : decode cX4_on 27 = .ok (.invokevirtual 92, 3) := by decide +kernel
theorem dX4_on_30 : decode cX4_on 30 = .ok (.ireturn, 1) := by decide +kernel
theorem dX4_on_31 : decode cX4_on 31 = .ok (.aload_n 0, 1) := by decide +kernel
theorem dX4_on_32 : decode cX4_on 32 = .ok (.getfield 7, 3) := by decide +kernel
theorem dX4_on_35 : decode cX4_on 35 = .ok (.aload_n 0, 1) := by decide +kernel
theorem dX4_on_36 : decode cX4_on 36 = .ok (.getfield 16, 3) := by decide +kernel
theorem dX4_on_39 : decode cX4_on 39 = .ok (.invokestatic 129, 3) := by decide +kernel
theorem dX4_on_42 : decode cX4_on 42 = .ok (.aload_n 0, 1) := by decide +kernel
theorem dX4_on_43 : decode cX4_on 43 = .ok (.iload_n 2, 1) := by decide +kernel
theorem dX4_on_44 : decode cX4_on 44 = .ok (.bipush 35, 2) := by decide +kernel
theorem dX4_on_46 : decode cX4_on 46 = .ok (.iconst 4, 1) := by decide +kernel
theorem dX4_on_47 : decode cX4_on 47 = .ok (.iload_n 1, 1) := by decide +kernel
theorem dX4_on_48 : decode cX4_on 48 = .ok (.imul, 1) := by decide +kernel
theorem dX4_on_49 : decode cX4_on 49 = .ok (.iadd, 1) := by decide +kernel
theorem dX4_on_50 : decode cX4_on 50 = .ok (.iload_n 3, 1) := by decide +kernel
theorem dX4_on_51 : decode cX4_on 51 = .ok (.ifCond .ne 7, 3) := by decide +kernel
theorem dX4_on_54 : decode cX4_on 54 = .ok (.iconst 1, 1) := by decide +kernel
theorem dX4_on_55 : decode cX4_on 55 = .ok (.goto 4, 3) := by decide +kernel
theorem dX4_on_58 : decode cX4_on 58 = .ok (.iconst 3, 1) := by decide +kernel
theorem dX4_on_59 : decode cX4_on 59 = .ok (.iadd, 1) := by decide +kernel
theorem dX4_on_60 : decode cX4_on 60 = .ok (.invokevirtual 143, 3) := by decide +kernel
theorem dX4_on_63 : decode cX4_on 63 = .ok (.ireturn, 1) := by decide +kernel
theorem dX4_house_0 : decode cX4_house 0 = .ok (.iload_n 1, 1) := by decide +kernel
theorem dX4_house_1 : decode cX4_house 1 = .ok (.invokestatic 137, 3) := by decide +kernel
theorem dX4_house_4 : decode cX4_house 4 = .ok (.ifCond .ne 9, 3) := by decide +kernel
theorem dX4_house_7 : decode cX4_house 7 = .ok (.aload_n 0, 1) := by decide +kernel
theorem dX4_house_8 : decode cX4_house 8 = .ok (.iconst 0, 1) := by decide +kernel
theorem dX4_house_9 : decode cX4_house 9 = .ok (.invokevirtual 92, 3) := by decide +kernel
theorem dX4_house_12 : decode cX4_house 12 = .ok (.ireturn, 1) := by decide +kernel
theorem dX4_house_13 : decode cX4_house 13 = .ok (.aload_n 0, 1) := by decide +kernel
theorem dX4_house_14 : decode cX4_house 14 = .ok (.getfield 7, 3) := by decide +kernel
theorem dX4_house_17 : decode cX4_house 17 = .ok (.aload_n 0, 1) := by decide +kernel
theorem dX4_house_18 : decode cX4_house 18 = .ok (.getfield 16, 3) := by decide +kernel
theorem dX4_house_21 : decode cX4_house 21 = .ok (.invokestatic 129, 3) := by decide +kernel
theorem dX4_house_24 : decode cX4_house 24 = .ok (.aload_n 0, 1) := by decide +kernel
theorem dX4_house_25 : decode cX4_house 25 = .ok (.iload_n 1, 1) := by decide +kernel
theorem dX4_house_26 : decode cX4_house 26 = .ok (.invokevirtual 146, 3) := by decide +kernel
theorem dX4_house_29 : decode cX4_house 29 = .ok (.ireturn, 1) := by decide +kernel
theorem dX4_heard_0 : decode cX4_heard 0 = .ok (.iload_n 1, 1) := by decide +kernel
theorem dX4_heard_1 : decode cX4_heard 1 = .ok (.i2l, 1) := by decide +kernel
theorem dX4_heard_2 : decode cX4_heard 2 = .ok (.lconst 1, 1) := by decide +kernel
theorem dX4_heard_3 : decode cX4_heard 3 = .ok (.ldc2_w 133, 3) := by decide +kernel
theorem dX4_heard_6 : decode cX4_heard 6 = .ok (.invokestatic 46, 3) := by decide +kernel
theorem dX4_heard_9 : decode cX4_heard 9 = .ok (.ifCond .eq 10, 3) := by decide +kernel
theorem dX4_heard_12 : decode cX4_heard 12 = .ok (.iload_n 2, 1) := by decide +kernel
theorem dX4_heard_13 : decode cX4_heard 13 = .ok (.invokestatic 110, 3) := by decide +kernel
theorem dX4_heard_16 : decode cX4_heard 16 = .ok (.ifCond .ne 9, 3) := by decide +kernel
theorem dX4_heard_19 : decode cX4_heard 19 = .ok (.aload_n 0, 1) := by decide +kernel
theorem dX4_heard_20 : decode cX4_heard 20 = .ok (.iconst 0, 1) := by decide +kernel
theorem dX4_heard_21 : decode cX4_heard 21 = .ok (.invokevirtual 92, 3) := by decide +kernel
theorem dX4_heard_24 : decode cX4_heard 24 = .ok (.ireturn, 1) := by decide +kernel
theorem dX4_heard_25 : decode cX4_heard 25 = .ok (.aload_n 0, 1) := by decide +kernel
theorem dX4_heard_26 : decode cX4_heard 26 = .ok (.getfield 7, 3) := by decide +kernel
theorem dX4_heard_29 : decode cX4_heard 29 = .ok (.aload_n 0, 1) := by decide +kernel
theorem dX4_heard_30 : decode cX4_heard 30 = .ok (.getfield 16, 3) := by decide +kernel
theorem dX4_heard_33 : decode cX4_heard 33 = .ok (.invokestatic 129, 3) := by decide +kernel
theorem dX4_heard_36 : decode cX4_heard 36 = .ok (.aload_n 0, 1) := by decide +kernel
theorem dX4_heard_37 : decode cX4_heard 37 = .ok (.iload_n 1, 1) := by decide +kernel
theorem dX4_heard_38 : decode cX4_heard 38 = .ok (.iconst 1, 1) := by decide +kernel
theorem dX4_heard_39 : decode cX4_heard 39 = .ok (.isub, 1) := by decide +kernel
theorem dX4_heard_40 : decode cX4_heard 40 = .ok (.invokevirtual 125, 3) := by decide +kernel
theorem dX4_heard_43 : decode cX4_heard 43 = .ok (.aload_n 0, 1) := by decide +kernel
theorem dX4_heard_44 : decode cX4_heard 44 = .ok (.iload_n 2, 1) := by decide +kernel
theorem dX4_heard_45 : decode cX4_heard 45 = .ok (.iconst 0, 1) := by decide +kernel
theorem dX4_heard_46 : decode cX4_heard 46 = .ok (.invokevirtual 101, 3) := by decide +kernel
theorem dX4_heard_49 : decode cX4_heard 49 = .ok (.istore_n 3, 1) := by decide +kernel
theorem dX4_heard_50 : decode cX4_heard 50 = .ok (.aload_n 0, 1) := by decide +kernel
theorem dX4_heard_51 : decode cX4_heard 51 = .ok (.getfield 16, 3) := by decide +kernel
theorem dX4_heard_54 : decode cX4_heard 54 = .ok (.aload_n 0, 1) := by decide +kernel
theorem dX4_heard_55 : decode cX4_heard 55 = .ok (.getfield 7, 3) := by decide +kernel
theorem dX4_heard_58 : decode cX4_heard 58 = .ok (.invokestatic 129, 3) := by decide +kernel
theorem dX4_heard_61 : decode cX4_heard 61 = .ok (.iload_n 3, 1) := by decide +kernel
theorem dX4_heard_62 : decode cX4_heard 62 = .ok (.ireturn, 1) := by decide +kernel
theorem dX4_does_0 : decode cX4_does 0 = .ok (.aload_n 0, 1) := by decide +kernel
theorem dX4_does_1 : decode cX4_does 1 = .ok (.iload_n 1, 1) := by decide +kernel
theorem dX4_does_2 : decode cX4_does 2 = .ok (.invokevirtual 50, 3) := by decide +kernel
theorem dX4_does_5 : decode cX4_does 5 = .ok (.ifCond .eq 10, 3) := by decide +kernel
theorem dX4_does_8 : decode cX4_does 8 = .ok (.iload_n 2, 1) := by decide +kernel
theorem dX4_does_9 : decode cX4_does 9 = .ok (.invokestatic 110, 3) := by decide +kernel
theorem dX4_does_12 : decode cX4_does 12 = .ok (.ifCond .ne 9, 3) := by decide +kernel
theorem dX4_does_15 : decode cX4_does 15 = .ok (.aload_n 0, 1) := by decide +kernel
theorem dX4_does_16 : decode cX4_does 16 = .ok (.iconst 0, 1) := by decide +kernel
theorem dX4_does_17 : decode cX4_does 17 = .ok (.invokevirtual 92, 3) := by decide +kernel
theorem dX4_does_20 : decode cX4_does 20 = .ok (.ireturn, 1) := by decide +kernel
theorem dX4_does_21 : decode cX4_does 21 = .ok (.aload_n 0, 1) := by decide +kernel
theorem dX4_does_22 : decode cX4_does 22 = .ok (.getfield 7, 3) := by decide +kernel
theorem dX4_does_25 : decode cX4_does 25 = .ok (.aload_n 0, 1) := by decide +kernel
theorem dX4_does_26 : decode cX4_does 26 = .ok (.getfield 16, 3) := by decide +kernel
theorem dX4_does_29 : decode cX4_does 29 = .ok (.invokestatic 129, 3) := by decide +kernel
theorem dX4_does_32 : decode cX4_does 32 = .ok (.iconst 1, 1) := by decide +kernel
theorem dX4_does_33 : decode cX4_does 33 = .ok (.istore_n 3, 1) := by decide +kernel
theorem dX4_does_34 : decode cX4_does 34 = .ok (.iload_n 3, 1) := by decide +kernel
theorem dX4_does_35 : decode cX4_does 35 = .ok (.sipush 400, 3) := by decide +kernel
theorem dX4_does_38 : decode cX4_does 38 = .ok (.if_icmp .ge 22, 3) := by decide +kernel
theorem dX4_does_41 : decode cX4_does 41 = .ok (.aload_n 0, 1) := by decide +kernel
theorem dX4_does_42 : decode cX4_does 42 = .ok (.iload_n 1, 1) := by decide +kernel
theorem dX4_does_43 : decode cX4_does 43 = .ok (.invokevirtual 66, 3) := by decide +kernel
theorem dX4_does_46 : decode cX4_does 46 = .ok (.iload_n 2, 1) := by decide +kernel
theorem dX4_does_47 : decode cX4_does 47 = .ok (.if_icmp .eq 13, 3) := by decide +kernel
theorem dX4_does_50 : decode cX4_does 50 = .ok (.aload_n 0, 1) := by decide +kernel
theorem dX4_does_51 : decode cX4_does 51 = .ok (.invokevirtual 80, 3) := by decide +kernel
theorem dX4_does_54 : decode cX4_does 54 = .ok (.iinc 3 1, 3) := by decide +kernel
theorem dX4_does_57 : decode cX4_does 57 = .ok (.goto (-23), 3) := by decide +kernel
theorem dX4_does_60 : decode cX4_does 60 = .ok (.aload_n 0, 1) := by decide +kernel
theorem dX4_does_61 : decode cX4_does 61 = .ok (.iload_n 1, 1) := by decide +kernel
theorem dX4_does_62 : decode cX4_does 62 = .ok (.invokevirtual 66, 3) := by decide +kernel
theorem dX4_does_65 : decode cX4_does 65 = .ok (.iload_n 2, 1) := by decide +kernel
theorem dX4_does_66 : decode cX4_does 66 = .ok (.if_icmp .ne 7, 3) := by decide +kernel
theorem dX4_does_69 : decode cX4_does 69 = .ok (.iconst 1, 1) := by decide +kernel
theorem dX4_does_70 : decode cX4_does 70 = .ok (.goto 4, 3) := by decide +kernel
theorem dX4_does_73 : decode cX4_does 73 = .ok (.iconst 0, 1) := by decide +kernel
theorem dX4_does_74 : decode cX4_does 74 = .ok (.istore 4, 2) := by decide +kernel
theorem dX4_does_76 : decode cX4_does 76 = .ok (.aload_n 0, 1) := by decide +kernel
theorem dX4_does_77 : decode cX4_does 77 = .ok (.getfield 16, 3) := by decide +kernel
theorem dX4_does_80 : decode cX4_does 80 = .ok (.aload_n 0, 1) := by decide +kernel
theorem dX4_does_81 : decode cX4_does 81 = .ok (.getfield 7, 3) := by decide +kernel
theorem dX4_does_84 : decode cX4_does 84 = .ok (.invokestatic 129, 3) := by decide +kernel
theorem dX4_does_87 : decode cX4_does 87 = .ok (.iload 4, 2) := by decide +kernel
theorem dX4_does_89 : decode cX4_does 89 = .ok (.ifCond .eq 7, 3) := by decide +kernel
theorem dX4_does_92 : decode cX4_does 92 = .ok (.iload_n 3, 1) := by decide +kernel
theorem dX4_does_93 : decode cX4_does 93 = .ok (.goto 8, 3) := by decide +kernel
theorem dX4_does_96 : decode cX4_does 96 = .ok (.aload_n 0, 1) := by decide +kernel
theorem dX4_does_97 : decode cX4_does 97 = .ok (.iconst 3, 1) := by decide +kernel
theorem dX4_does_98 : decode cX4_does 98 = .ok (.invokevirtual 92, 3) := by decide +kernel
theorem dX4_does_101 : decode cX4_does 101 = .ok (.ireturn, 1) := by decide +kernel
theorem dX4_comes_0 : decode cX4_comes 0 = .ok (.aload_n 0, 1) := by decide +kernel
theorem dX4_comes_1 : decode cX4_comes 1 = .ok (.iload_n 1, 1) := by decide +kernel
theorem dX4_comes_2 : decode cX4_comes 2 = .ok (.invokevirtual 50, 3) := by decide +kernel
theorem dX4_comes_5 : decode cX4_comes 5 = .ok (.ifCond .eq 17, 3) := by decide +kernel
theorem dX4_comes_8 : decode cX4_comes 8 = .ok (.iload_n 2, 1) := by decide +kernel
theorem dX4_comes_9 : decode cX4_comes 9 = .ok (.i2l, 1) := by decide +kernel
theorem dX4_comes_10 : decode cX4_comes 10 = .ok (.ldc2_w 115, 3) := by decide +kernel
theorem dX4_comes_13 : decode cX4_comes 13 = .ok (.ldc2_w 117, 3) := by decide +kernel
theorem dX4_comes_16 : decode cX4_comes 16 = .ok (.invokestatic 46, 3) := by decide +kernel
theorem dX4_comes_19 : decode cX4_comes 19 = .ok (.ifCond .ne 9, 3) := by decide +kernel
theorem dX4_comes_22 : decode cX4_comes 22 = .ok (.aload_n 0, 1) := by decide +kernel
theorem dX4_comes_23 : decode cX4_comes 23 = .ok (.iconst 0, 1) := by decide +kernel
theorem dX4_comes_24 : decode cX4_comes 24 = .ok (.invokevirtual 92, 3) := by decide +kernel
theorem dX4_comes_27 : decode cX4_comes 27 = .ok (.ireturn, 1) := by decide +kernel
theorem dX4_comes_28 : decode cX4_comes 28 = .ok (.aload_n 0, 1) := by decide +kernel
theorem dX4_comes_29 : decode cX4_comes 29 = .ok (.getfield 7, 3) := by decide +kernel
theorem dX4_comes_32 : decode cX4_comes 32 = .ok (.aload_n 0, 1) := by decide +kernel
theorem dX4_comes_33 : decode cX4_comes 33 = .ok (.getfield 16, 3) := by decide +kernel
theorem dX4_comes_36 : decode cX4_comes 36 = .ok (.invokestatic 129, 3) := by decide +kernel
theorem dX4_comes_39 : decode cX4_comes 39 = .ok (.iconst 0, 1) := by decide +kernel
theorem dX4_comes_40 : decode cX4_comes 40 = .ok (.istore_n 3, 1) := by decide +kernel
theorem dX4_comes_41 : decode cX4_comes 41 = .ok (.iload_n 3, 1) := by decide +kernel
theorem dX4_comes_42 : decode cX4_comes 42 = .ok (.sipush 400, 3) := by decide +kernel
theorem dX4_comes_45 : decode cX4_comes 45 = .ok (.if_icmp .ge 23, 3) := by decide +kernel
theorem dX4_comes_48 : decode cX4_comes 48 = .ok (.aload_n 0, 1) := by decide +kernel
theorem dX4_comes_49 : decode cX4_comes 49 = .ok (.iload_n 1, 1) := by decide +kernel
theorem dX4_comes_50 : decode cX4_comes 50 = .ok (.iconst 2, 1) := by decide +kernel
theorem dX4_comes_51 : decode cX4_comes 51 = .ok (.invokevirtual 54, 3) := by decide +kernel
theorem dX4_comes_54 : decode cX4_comes 54 = .ok (.iload_n 2, 1) := by decide +kernel
theorem dX4_comes_55 : decode cX4_comes 55 = .ok (.if_icmp .ge 13, 3) := by decide +kernel
theorem dX4_comes_58 : decode cX4_comes 58 = .ok (.aload_n 0, 1) := by decide +kernel
theorem dX4_comes_59 : decode cX4_comes 59 = .ok (.invokevirtual 80, 3) := by decide +kernel
theorem dX4_comes_62 : decode cX4_comes 62 = .ok (.iinc 3 1, 3) := by decide +kernel
theorem dX4_comes_65 : decode cX4_comes 65 = .ok (.goto (-24), 3) := by decide +kernel
theorem dX4_comes_68 : decode cX4_comes 68 = .ok (.aload_n 0, 1) := by decide +kernel
theorem dX4_comes_69 : decode cX4_comes 69 = .ok (.iload_n 1, 1) := by decide +kernel
theorem dX4_comes_70 : decode cX4_comes 70 = .ok (.iconst 2, 1) := by decide +kernel
theorem dX4_comes_71 : decode cX4_comes 71 = .ok (.invokevirtual 54, 3) := by decide +kernel
theorem dX4_comes_74 : decode cX4_comes 74 = .ok (.iload_n 2, 1) := by decide +kernel
theorem dX4_comes_75 : decode cX4_comes 75 = .ok (.if_icmp .lt 7, 3) := by decide +kernel
theorem dX4_comes_78 : decode cX4_comes 78 = .ok (.iconst 1, 1) := by decide +kernel
theorem dX4_comes_79 : decode cX4_comes 79 = .ok (.goto 4, 3) := by decide +kernel
theorem dX4_comes_82 : decode cX4_comes 82 = .ok (.iconst 0, 1) := by decide +kernel
theorem dX4_comes_83 : decode cX4_comes 83 = .ok (.istore 4, 2) := by decide +kernel
theorem dX4_comes_85 : decode cX4_comes 85 = .ok (.aload_n 0, 1) := by decide +kernel
theorem dX4_comes_86 : decode cX4_comes 86 = .ok (.getfield 16, 3) := by decide +kernel
theorem dX4_comes_89 : decode cX4_comes 89 = .ok (.aload_n 0, 1) := by decide +kernel
theorem dX4_comes_90 : decode cX4_comes 90 = .ok (.getfield 7, 3) := by decide +kernel
theorem dX4_comes_93 : decode cX4_comes 93 = .ok (.invokestatic 129, 3) := by decide +kernel
theorem dX4_comes_96 : decode cX4_comes 96 = .ok (.iload 4, 2) := by decide +kernel
theorem dX4_comes_98 : decode cX4_comes 98 = .ok (.ifCond .eq 7, 3) := by decide +kernel
theorem dX4_comes_101 : decode cX4_comes 101 = .ok (.iload_n 3, 1) := by decide +kernel
theorem dX4_comes_102 : decode cX4_comes 102 = .ok (.goto 8, 3) := by decide +kernel
theorem dX4_comes_105 : decode cX4_comes 105 = .ok (.aload_n 0, 1) := by decide +kernel
theorem dX4_comes_106 : decode cX4_comes 106 = .ok (.iconst 3, 1) := by decide +kernel
theorem dX4_comes_107 : decode cX4_comes 107 = .ok (.invokevirtual 92, 3) := by decide +kernel
theorem dX4_comes_110 : decode cX4_comes 110 = .ok (.ireturn, 1) := by decide +kernel
theorem dX4_place_0 : decode cX4_place 0 = .ok (.aload_n 0, 1) := by decide +kernel
theorem dX4_place_1 : decode cX4_place 1 = .ok (.iload_n 1, 1) := by decide +kernel
theorem dX4_place_2 : decode cX4_place 2 = .ok (.invokevirtual 50, 3) := by decide +kernel
theorem dX4_place_5 : decode cX4_place 5 = .ok (.ifCond .eq 10, 3) := by decide +kernel
theorem dX4_place_8 : decode cX4_place 8 = .ok (.iload_n 2, 1) := by decide +kernel
theorem dX4_place_9 : decode cX4_place 9 = .ok (.invokestatic 149, 3) := by decide +kernel
theorem dX4_place_12 : decode cX4_place 12 = .ok (.ifCond .ne 9, 3) := by decide +kernel
theorem dX4_place_15 : decode cX4_place 15 = .ok (.aload_n 0, 1) := by decide +kernel
theorem dX4_place_16 : decode cX4_place 16 = .ok (.iconst 0, 1) := by decide +kernel
theorem dX4_place_17 : decode cX4_place 17 = .ok (.invokevirtual 92, 3) := by decide +kernel
theorem dX4_place_20 : decode cX4_place 20 = .ok (.ireturn, 1) := by decide +kernel
theorem dX4_place_21 : decode cX4_place 21 = .ok (.aload_n 0, 1) := by decide +kernel
theorem dX4_place_22 : decode cX4_place 22 = .ok (.getfield 7, 3) := by decide +kernel
theorem dX4_place_25 : decode cX4_place 25 = .ok (.aload_n 0, 1) := by decide +kernel
theorem dX4_place_26 : decode cX4_place 26 = .ok (.getfield 16, 3) := by decide +kernel
theorem dX4_place_29 : decode cX4_place 29 = .ok (.invokestatic 129, 3) := by decide +kernel
theorem dX4_place_32 : decode cX4_place 32 = .ok (.iconst (-1), 1) := by decide +kernel
theorem dX4_place_33 : decode cX4_place 33 = .ok (.istore_n 3, 1) := by decide +kernel
theorem dX4_place_34 : decode cX4_place 34 = .ok (.aload_n 0, 1) := by decide +kernel
theorem dX4_place_35 : decode cX4_place 35 = .ok (.iload_n 2, 1) := by decide +kernel
theorem dX4_place_36 : decode cX4_place 36 = .ok (.invokevirtual 146, 3) := by decide +kernel
theorem dX4_place_39 : decode cX4_place 39 = .ok (.istore 4, 2) := by decide +kernel
theorem dX4_place_41 : decode cX4_place 41 = .ok (.iconst 0, 1) := by decide +kernel
theorem dX4_place_42 : decode cX4_place 42 = .ok (.istore 5, 2) := by decide +kernel
theorem dX4_place_44 : decode cX4_place 44 = .ok (.iload 5, 2) := by decide +kernel
theorem dX4_place_46 : decode cX4_place 46 = .ok (.aload_n 0, 1) := by decide +kernel
theorem dX4_place_47 : decode cX4_place 47 = .ok (.getfield 7, 3) := by decide +kernel
theorem dX4_place_50 : decode cX4_place 50 = .ok (.iconst 0, 1) := by decide +kernel
theorem dX4_place_51 : decode cX4_place 51 = .ok (.iaload, 1) := by decide +kernel
theorem dX4_place_52 : decode cX4_place 52 = .ok (.if_icmp .ge 43, 3) := by decide +kernel
theorem dX4_place_55 : decode cX4_place 55 = .ok (.iload 5, 2) := by decide +kernel
theorem dX4_place_57 : decode cX4_place 57 = .ok (.iload_n 1, 1) := by decide +kernel
theorem dX4_place_58 : decode cX4_place 58 = .ok (.if_icmp .eq 31, 3) := by decide +kernel
theorem dX4_place_61 : decode cX4_place 61 = .ok (.aload_n 0, 1) := by decide +kernel
theorem dX4_place_62 : decode cX4_place 62 = .ok (.iload_n 1, 1) := by decide +kernel
theorem dX4_place_63 : decode cX4_place 63 = .ok (.iload 5, 2) := by decide +kernel
theorem dX4_place_65 : decode cX4_place 65 = .ok (.invokevirtual 119, 3) := by decide +kernel
theorem dX4_place_68 : decode cX4_place 68 = .ok (.aload_n 0, 1) := by decide +kernel
theorem dX4_place_69 : decode cX4_place 69 = .ok (.iload_n 2, 1) := by decide +kernel
theorem dX4_place_70 : decode cX4_place 70 = .ok (.invokevirtual 146, 3) := by decide +kernel
theorem dX4_place_73 : decode cX4_place 73 = .ok (.istore 6, 2) := by decide +kernel
theorem dX4_place_75 : decode cX4_place 75 = .ok (.iload 6, 2) := by decide +kernel
theorem dX4_place_77 : decode cX4_place 77 = .ok (.iload 4, 2) := by decide +kernel
theorem dX4_place_79 : decode cX4_place 79 = .ok (.if_icmp .le 10, 3) := by decide +kernel
theorem dX4_place_82 : decode cX4_place 82 = .ok (.iload 5, 2) := by decide +kernel
theorem dX4_place_84 : decode cX4_place 84 = .ok (.istore_n 3, 1) := by decide +kernel
theorem dX4_place_85 : decode cX4_place 85 = .ok (.iload 6, 2) := by decide +kernel
theorem dX4_place_87 : decode cX4_place 87 = .ok (.istore 4, 2) := by decide +kernel
theorem dX4_place_89 : decode cX4_place 89 = .ok (.iinc 5 1, 3) := by decide +kernel
theorem dX4_place_92 : decode cX4_place 92 = .ok (.goto (-48), 3) := by decide +kernel
theorem dX4_place_95 : decode cX4_place 95 = .ok (.iload_n 3, 1) := by decide +kernel
theorem dX4_place_96 : decode cX4_place 96 = .ok (.ifCond .ge 11, 3) := by decide +kernel
theorem dX4_place_99 : decode cX4_place 99 = .ok (.aload_n 0, 1) := by decide +kernel
theorem dX4_place_100 : decode cX4_place 100 = .ok (.iconst 3, 1) := by decide +kernel
theorem dX4_place_101 : decode cX4_place 101 = .ok (.invokevirtual 92, 3) := by decide +kernel
theorem dX4_place_104 : decode cX4_place 104 = .ok (.goto 4, 3) := by decide +kernel
theorem dX4_place_107 : decode cX4_place 107 = .ok (.iload_n 3, 1) := by decide +kernel
theorem dX4_place_108 : decode cX4_place 108 = .ok (.ireturn, 1) := by decide +kernel
theorem dX4_kind_0 : decode cX4_kind 0 = .ok (.aload_n 0, 1) := by decide +kernel
theorem dX4_kind_1 : decode cX4_kind 1 = .ok (.iload_n 1, 1) := by decide +kernel
theorem dX4_kind_2 : decode cX4_kind 2 = .ok (.invokevirtual 50, 3) := by decide +kernel
theorem dX4_kind_5 : decode cX4_kind 5 = .ok (.ifCond .eq 10, 3) := by decide +kernel
theorem dX4_kind_8 : decode cX4_kind 8 = .ok (.iload_n 2, 1) := by decide +kernel
theorem dX4_kind_9 : decode cX4_kind 9 = .ok (.invokestatic 149, 3) := by decide +kernel
theorem dX4_kind_12 : decode cX4_kind 12 = .ok (.ifCond .ne 9, 3) := by decide +kernel
theorem dX4_kind_15 : decode cX4_kind 15 = .ok (.aload_n 0, 1) := by decide +kernel
theorem dX4_kind_16 : decode cX4_kind 16 = .ok (.iconst 0, 1) := by decide +kernel
theorem dX4_kind_17 : decode cX4_kind 17 = .ok (.invokevirtual 92, 3) := by decide +kernel
theorem dX4_kind_20 : decode cX4_kind 20 = .ok (.ireturn, 1) := by decide +kernel
theorem dX4_kind_21 : decode cX4_kind 21 = .ok (.aload_n 0, 1) := by decide +kernel
theorem dX4_kind_22 : decode cX4_kind 22 = .ok (.getfield 7, 3) := by decide +kernel
theorem dX4_kind_25 : decode cX4_kind 25 = .ok (.aload_n 0, 1) := by decide +kernel
theorem dX4_kind_26 : decode cX4_kind 26 = .ok (.getfield 16, 3) := by decide +kernel
theorem dX4_kind_29 : decode cX4_kind 29 = .ok (.invokestatic 129, 3) := by decide +kernel
theorem dX4_kind_32 : decode cX4_kind 32 = .ok (.iconst 0, 1) := by decide +kernel
theorem dX4_kind_33 : decode cX4_kind 33 = .ok (.istore_n 3, 1) := by decide +kernel
theorem dX4_kind_34 : decode cX4_kind 34 = .ok (.sipush (-10000), 3) := by decide +kernel
theorem dX4_kind_37 : decode cX4_kind 37 = .ok (.istore 4, 2) := by decide +kernel
theorem dX4_kind_39 : decode cX4_kind 39 = .ok (.iconst 0, 1) := by decide +kernel
theorem dX4_kind_40 : decode cX4_kind 40 = .ok (.istore 5, 2) := by decide +kernel
theorem dX4_kind_42 : decode cX4_kind 42 = .ok (.iload 5, 2) := by decide +kernel
theorem dX4_kind_44 : decode cX4_kind 44 = .ok (.bipush 6, 2) := by decide +kernel
theorem dX4_kind_46 : decode cX4_kind 46 = .ok (.if_icmp .ge 43, 3) := by decide +kernel
theorem dX4_kind_49 : decode cX4_kind 49 = .ok (.aload_n 0, 1) := by decide +kernel
theorem dX4_kind_50 : decode cX4_kind 50 = .ok (.iload_n 1, 1) := by decide +kernel
theorem dX4_kind_51 : decode cX4_kind 51 = .ok (.iconst 0, 1) := by decide +kernel
theorem dX4_kind_52 : decode cX4_kind 52 = .ok (.iload 5, 2) := by decide +kernel
theorem dX4_kind_54 : decode cX4_kind 54 = .ok (.invokevirtual 73, 3) := by decide +kernel
theorem dX4_kind_57 : decode cX4_kind 57 = .ok (.aload_n 0, 1) := by decide +kernel
theorem dX4_kind_58 : decode cX4_kind 58 = .ok (.iload_n 2, 1) := by decide +kernel
theorem dX4_kind_59 : decode cX4_kind 59 = .ok (.aload_n 0, 1) := by decide +kernel
theorem dX4_kind_60 : decode cX4_kind 60 = .ok (.iload_n 1, 1) := by decide +kernel
theorem dX4_kind_61 : decode cX4_kind 61 = .ok (.invokevirtual 140, 3) := by decide +kernel
theorem dX4_kind_64 : decode cX4_kind 64 = .ok (.invokevirtual 143, 3) := by decide +kernel
theorem dX4_kind_67 : decode cX4_kind 67 = .ok (.istore 6, 2) := by decide +kernel
theorem dX4_kind_69 : decode cX4_kind 69 = .ok (.iload 6, 2) := by decide +kernel
theorem dX4_kind_71 : decode cX4_kind 71 = .ok (.iload 4, 2) := by decide +kernel
theorem dX4_kind_73 : decode cX4_kind 73 = .ok (.if_icmp .le 10, 3) := by decide +kernel
theorem dX4_kind_76 : decode cX4_kind 76 = .ok (.iload 5, 2) := by decide +kernel
theorem dX4_kind_78 : decode cX4_kind 78 = .ok (.istore_n 3, 1) := by decide +kernel
theorem dX4_kind_79 : decode cX4_kind 79 = .ok (.iload 6, 2) := by decide +kernel
theorem dX4_kind_81 : decode cX4_kind 81 = .ok (.istore 4, 2) := by decide +kernel
theorem dX4_kind_83 : decode cX4_kind 83 = .ok (.iinc 5 1, 3) := by decide +kernel
theorem dX4_kind_86 : decode cX4_kind 86 = .ok (.goto (-44), 3) := by decide +kernel
theorem dX4_kind_89 : decode cX4_kind 89 = .ok (.iload_n 3, 1) := by decide +kernel
theorem dX4_kind_90 : decode cX4_kind 90 = .ok (.ireturn, 1) := by decide +kernel
theorem dX4_fresh_0 : decode cX4_fresh 0 = .ok (.aload_n 0, 1) := by decide +kernel
theorem dX4_fresh_1 : decode cX4_fresh 1 = .ok (.iload_n 1, 1) := by decide +kernel
theorem dX4_fresh_2 : decode cX4_fresh 2 = .ok (.invokevirtual 50, 3) := by decide +kernel
theorem dX4_fresh_5 : decode cX4_fresh 5 = .ok (.ifCond .eq 24, 3) := by decide +kernel
theorem dX4_fresh_8 : decode cX4_fresh 8 = .ok (.iload_n 2, 1) := by decide +kernel
theorem dX4_fresh_9 : decode cX4_fresh 9 = .ok (.invokestatic 149, 3) := by decide +kernel
theorem dX4_fresh_12 : decode cX4_fresh 12 = .ok (.ifCond .eq 17, 3) := by decide +kernel
theorem dX4_fresh_15 : decode cX4_fresh 15 = .ok (.iload_n 3, 1) := by decide +kernel
theorem dX4_fresh_16 : decode cX4_fresh 16 = .ok (.i2l, 1) := by decide +kernel
theorem dX4_fresh_17 : decode cX4_fresh 17 = .ok (.ldc2_w 115, 3) := by decide +kernel
theorem dX4_fresh_20 : decode cX4_fresh 20 = .ok (.ldc2_w 117, 3) := by decide +kernel
theorem dX4_fresh_23 : decode cX4_fresh 23 = .ok (.invokestatic 46, 3) := by decide +kernel
theorem dX4_fresh_26 : decode cX4_fresh 26 = .ok (.ifCond .ne 9, 3) := by decide +kernel
theorem dX4_fresh_29 : decode cX4_fresh 29 = .ok (.aload_n 0, 1) := by decide +kernel
theorem dX4_fresh_30 : decode cX4_fresh 30 = .ok (.iconst 0, 1) := by decide +kernel
theorem dX4_fresh_31 : decode cX4_fresh 31 = .ok (.invokevirtual 92, 3) := by decide +kernel
theorem dX4_fresh_34 : decode cX4_fresh 34 = .ok (.ireturn, 1) := by decide +kernel
theorem dX4_fresh_35 : decode cX4_fresh 35 = .ok (.aload_n 0, 1) := by decide +kernel
theorem dX4_fresh_36 : decode cX4_fresh 36 = .ok (.getfield 7, 3) := by decide +kernel
theorem dX4_fresh_39 : decode cX4_fresh 39 = .ok (.aload_n 0, 1) := by decide +kernel
theorem dX4_fresh_40 : decode cX4_fresh 40 = .ok (.getfield 16, 3) := by decide +kernel
theorem dX4_fresh_43 : decode cX4_fresh 43 = .ok (.invokestatic 129, 3) := by decide +kernel
theorem dX4_fresh_46 : decode cX4_fresh 46 = .ok (.iconst 0, 1) := by decide +kernel
theorem dX4_fresh_47 : decode cX4_fresh 47 = .ok (.istore 4, 2) := by decide +kernel
theorem dX4_fresh_49 : decode cX4_fresh 49 = .ok (.iload 4, 2) := by decide +kernel
theorem dX4_fresh_51 : decode cX4_fresh 51 = .ok (.bipush 99, 2) := by decide +kernel
theorem dX4_fresh_53 : decode cX4_fresh 53 = .ok (.if_icmp .gt 34, 3) := by decide +kernel
theorem dX4_fresh_56 : decode cX4_fresh 56 = .ok (.aload_n 0, 1) := by decide +kernel
theorem dX4_fresh_57 : decode cX4_fresh 57 = .ok (.iload_n 1, 1) := by decide +kernel
theorem dX4_fresh_58 : decode cX4_fresh 58 = .ok (.iconst 1, 1) := by decide +kernel
theorem dX4_fresh_59 : decode cX4_fresh 59 = .ok (.iload 4, 2) := by decide +kernel
theorem dX4_fresh_61 : decode cX4_fresh 61 = .ok (.invokevirtual 73, 3) := by decide +kernel
theorem dX4_fresh_64 : decode cX4_fresh 64 = .ok (.aload_n 0, 1) := by decide +kernel
theorem dX4_fresh_65 : decode cX4_fresh 65 = .ok (.iload_n 2, 1) := by decide +kernel
theorem dX4_fresh_66 : decode cX4_fresh 66 = .ok (.aload_n 0, 1) := by decide +kernel
theorem dX4_fresh_67 : decode cX4_fresh 67 = .ok (.iload_n 1, 1) := by decide +kernel
theorem dX4_fresh_68 : decode cX4_fresh 68 = .ok (.invokevirtual 140, 3) := by decide +kernel
theorem dX4_fresh_71 : decode cX4_fresh 71 = .ok (.invokevirtual 143, 3) := by decide +kernel
theorem dX4_fresh_74 : decode cX4_fresh 74 = .ok (.iload_n 3, 1) := by decide +kernel
theorem dX4_fresh_75 : decode cX4_fresh 75 = .ok (.if_icmp .lt 6, 3) := by decide +kernel
theorem dX4_fresh_78 : decode cX4_fresh 78 = .ok (.iload 4, 2) := by decide +kernel
theorem dX4_fresh_80 : decode cX4_fresh 80 = .ok (.ireturn, 1) := by decide +kernel
theorem dX4_fresh_81 : decode cX4_fresh 81 = .ok (.iinc 4 1, 3) := by decide +kernel
theorem dX4_fresh_84 : decode cX4_fresh 84 = .ok (.goto (-35), 3) := by decide +kernel
theorem dX4_fresh_87 : decode cX4_fresh 87 = .ok (.aload_n 0, 1) := by decide +kernel
theorem dX4_fresh_88 : decode cX4_fresh 88 = .ok (.iconst 3, 1) := by decide +kernel
theorem dX4_fresh_89 : decode cX4_fresh 89 = .ok (.invokevirtual 92, 3) := by decide +kernel
theorem dX4_fresh_92 : decode cX4_fresh 92 = .ok (.ireturn, 1) := by decide +kernel
theorem dX4_cue_0 : decode cX4_cue 0 = .ok (.iload_n 1, 1) := by decide +kernel
theorem dX4_cue_1 : decode cX4_cue 1 = .ok (.i2l, 1) := by decide +kernel
theorem dX4_cue_2 : decode cX4_cue 2 = .ok (.lconst 1, 1) := by decide +kernel
theorem dX4_cue_3 : decode cX4_cue 3 = .ok (.ldc2_w 152, 3) := by decide +kernel
theorem dX4_cue_6 : decode cX4_cue 6 = .ok (.invokestatic 46, 3) := by decide +kernel
theorem dX4_cue_9 : decode cX4_cue 9 = .ok (.ifCond .ne 9, 3) := by decide +kernel
theorem dX4_cue_12 : decode cX4_cue 12 = .ok (.aload_n 0, 1) := by decide +kernel
theorem dX4_cue_13 : decode cX4_cue 13 = .ok (.iconst 0, 1) := by decide +kernel
theorem dX4_cue_14 : decode cX4_cue 14 = .ok (.invokevirtual 92, 3) := by decide +kernel
theorem dX4_cue_17 : decode cX4_cue 17 = .ok (.ireturn, 1) := by decide +kernel
theorem dX4_cue_18 : decode cX4_cue 18 = .ok (.aload_n 0, 1) := by decide +kernel
theorem dX4_cue_19 : decode cX4_cue 19 = .ok (.getfield 7, 3) := by decide +kernel
theorem dX4_cue_22 : decode cX4_cue 22 = .ok (.aload_n 0, 1) := by decide +kernel
theorem dX4_cue_23 : decode cX4_cue 23 = .ok (.getfield 16, 3) := by decide +kernel
theorem dX4_cue_26 : decode cX4_cue 26 = .ok (.invokestatic 129, 3) := by decide +kernel
theorem dX4_cue_29 : decode cX4_cue 29 = .ok (.iconst 0, 1) := by decide +kernel
theorem dX4_cue_30 : decode cX4_cue 30 = .ok (.istore_n 2, 1) := by decide +kernel
theorem dX4_cue_31 : decode cX4_cue 31 = .ok (.ldc 154, 2) := by decide +kernel
theorem dX4_cue_33 : decode cX4_cue 33 = .ok (.istore_n 3, 1) := by decide +kernel
theorem dX4_cue_34 : decode cX4_cue 34 = .ok (.iconst 0, 1) := by decide +kernel
theorem dX4_cue_35 : decode cX4_cue 35 = .ok (.istore 4, 2) := by decide +kernel
theorem dX4_cue_37 : decode cX4_cue 37 = .ok (.iload 4, 2) := by decide +kernel
theorem dX4_cue_39 : decode cX4_cue 39 = .ok (.bipush 80, 2) := by decide +kernel
theorem dX4_cue_41 : decode cX4_cue 41 = .ok (.if_icmp .ge 45, 3) := by decide +kernel
theorem dX4_cue_44 : decode cX4_cue 44 = .ok (.aload_n 0, 1) := by decide +kernel
theorem dX4_cue_45 : decode cX4_cue 45 = .ok (.getfield 7, 3) := by decide +kernel
theorem dX4_cue_48 : decode cX4_cue 48 = .ok (.iconst 3, 1) := by decide +kernel
theorem dX4_cue_49 : decode cX4_cue 49 = .ok (.iload 4, 2) := by decide +kernel
theorem dX4_cue_51 : decode cX4_cue 51 = .ok (.bipush 16, 2) := by decide +kernel
theorem dX4_cue_53 : decode cX4_cue 53 = .ok (.irem, 1) := by decide +kernel
theorem dX4_cue_54 : decode cX4_cue 54 = .ok (.iadd, 1) := by decide +kernel
theorem dX4_cue_55 : decode cX4_cue 55 = .ok (.iload 4, 2) := by decide +kernel
theorem dX4_cue_57 : decode cX4_cue 57 = .ok (.bipush 16, 2) := by decide +kernel
theorem dX4_cue_59 : decode cX4_cue 59 = .ok (.idiv, 1) := by decide +kernel
theorem dX4_cue_60 : decode cX4_cue 60 = .ok (.iastore, 1) := by decide +kernel
theorem dX4_cue_61 : decode cX4_cue 61 = .ok (.aload_n 0, 1) := by decide +kernel
theorem dX4_cue_62 : decode cX4_cue 62 = .ok (.iload_n 1, 1) := by decide +kernel
theorem dX4_cue_63 : decode cX4_cue 63 = .ok (.invokevirtual 146, 3) := by decide +kernel
theorem dX4_cue_66 : decode cX4_cue 66 = .ok (.istore 5, 2) := by decide +kernel
theorem dX4_cue_68 : decode cX4_cue 68 = .ok (.iload 5, 2) := by decide +kernel
theorem dX4_cue_70 : decode cX4_cue 70 = .ok (.iload_n 3, 1) := by decide +kernel
theorem dX4_cue_71 : decode cX4_cue 71 = .ok (.if_icmp .le 9, 3) := by decide +kernel
theorem dX4_cue_74 : decode cX4_cue 74 = .ok (.iload 4, 2) := by decide +kernel
theorem dX4_cue_76 : decode cX4_cue 76 = .ok (.istore_n 2, 1) := by decide +kernel
theorem dX4_cue_77 : decode cX4_cue 77 = .ok (.iload 5, 2) := by decide +kernel
theorem dX4_cue_79 : decode cX4_cue 79 = .ok (.istore_n 3, 1) := by decide +kernel
theorem dX4_cue_80 : decode cX4_cue 80 = .ok (.iinc 4 1, 3) := by decide +kernel
theorem dX4_cue_83 : decode cX4_cue 83 = .ok (.goto (-46), 3) := by decide +kernel
theorem dX4_cue_86 : decode cX4_cue 86 = .ok (.iload_n 2, 1) := by decide +kernel
theorem dX4_cue_87 : decode cX4_cue 87 = .ok (.ireturn, 1) := by decide +kernel
theorem dX4_doze_0 : decode cX4_doze 0 = .ok (.iload_n 1, 1) := by decide +kernel
theorem dX4_doze_1 : decode cX4_doze 1 = .ok (.invokestatic 149, 3) := by decide +kernel
theorem dX4_doze_4 : decode cX4_doze 4 = .ok (.ifCond .ne 9, 3) := by decide +kernel
theorem dX4_doze_7 : decode cX4_doze 7 = .ok (.aload_n 0, 1) := by decide +kernel
theorem dX4_doze_8 : decode cX4_doze 8 = .ok (.iconst 0, 1) := by decide +kernel
theorem dX4_doze_9 : decode cX4_doze 9 = .ok (.invokevirtual 92, 3) := by decide +kernel
theorem dX4_doze_12 : decode cX4_doze 12 = .ok (.ireturn, 1) := by decide +kernel
theorem dX4_doze_13 : decode cX4_doze 13 = .ok (.aload_n 0, 1) := by decide +kernel
theorem dX4_doze_14 : decode cX4_doze 14 = .ok (.getfield 7, 3) := by decide +kernel
theorem dX4_doze_17 : decode cX4_doze 17 = .ok (.aload_n 0, 1) := by decide +kernel
theorem dX4_doze_18 : decode cX4_doze 18 = .ok (.getfield 16, 3) := by decide +kernel
theorem dX4_doze_21 : decode cX4_doze 21 = .ok (.invokestatic 129, 3) := by decide +kernel
theorem dX4_doze_24 : decode cX4_doze 24 = .ok (.iconst (-1), 1) := by decide +kernel
theorem dX4_doze_25 : decode cX4_doze 25 = .ok (.istore_n 2, 1) := by decide +kernel
theorem dX4_doze_26 : decode cX4_doze 26 = .ok (.ldc 155, 2) := by decide +kernel
theorem dX4_doze_28 : decode cX4_doze 28 = .ok (.istore_n 3, 1) := by decide +kernel
theorem dX4_doze_29 : decode cX4_doze 29 = .ok (.iconst 0, 1) := by decide +kernel
theorem dX4_doze_30 : decode cX4_doze 30 = .ok (.istore 4, 2) := by decide +kernel
theorem dX4_doze_32 : decode cX4_doze 32 = .ok (.iload 4, 2) := by decide +kernel
theorem dX4_doze_34 : decode cX4_doze 34 = .ok (.aload_n 0, 1) := by decide +kernel
theorem dX4_doze_35 : decode cX4_doze 35 = .ok (.getfield 7, 3) := by decide +kernel
theorem dX4_doze_38 : decode cX4_doze 38 = .ok (.iconst 0, 1) := by decide +kernel
theorem dX4_doze_39 : decode cX4_doze 39 = .ok (.iaload, 1) := by decide +kernel
theorem dX4_doze_40 : decode cX4_doze 40 = .ok (.if_icmp .ge 36, 3) := by decide +kernel
theorem dX4_doze_43 : decode cX4_doze 43 = .ok (.aload_n 0, 1) := by decide +kernel
theorem dX4_doze_44 : decode cX4_doze 44 = .ok (.iload 4, 2) := by decide +kernel
theorem dX4_doze_46 : decode cX4_doze 46 = .ok (.iconst 0, 1) := by decide +kernel
theorem dX4_doze_47 : decode cX4_doze 47 = .ok (.iconst 3, 1) := by decide +kernel
theorem dX4_doze_48 : decode cX4_doze 48 = .ok (.invokevirtual 73, 3) := by decide +kernel
theorem dX4_doze_51 : decode cX4_doze 51 = .ok (.aload_n 0, 1) := by decide +kernel
theorem dX4_doze_52 : decode cX4_doze 52 = .ok (.iload_n 1, 1) := by decide +kernel
theorem dX4_doze_53 : decode cX4_doze 53 = .ok (.invokevirtual 146, 3) := by decide +kernel
theorem dX4_doze_56 : decode cX4_doze 56 = .ok (.istore 5, 2) := by decide +kernel
theorem dX4_doze_58 : decode cX4_doze 58 = .ok (.iload 5, 2) := by decide +kernel
theorem dX4_doze_60 : decode cX4_doze 60 = .ok (.iload_n 3, 1) := by decide +kernel
theorem dX4_doze_61 : decode cX4_doze 61 = .ok (.if_icmp .ge 9, 3) := by decide +kernel
theorem dX4_doze_64 : decode cX4_doze 64 = .ok (.iload 4, 2) := by decide +kernel
theorem dX4_doze_66 : decode cX4_doze 66 = .ok (.istore_n 2, 1) := by decide +kernel
theorem dX4_doze_67 : decode cX4_doze 67 = .ok (.iload 5, 2) := by decide +kernel
theorem dX4_doze_69 : decode cX4_doze 69 = .ok (.istore_n 3, 1) := by decide +kernel
theorem dX4_doze_70 : decode cX4_doze 70 = .ok (.iinc 4 1, 3) := by decide +kernel
theorem dX4_doze_73 : decode cX4_doze 73 = .ok (.goto (-41), 3) := by decide +kernel
theorem dX4_doze_76 : decode cX4_doze 76 = .ok (.iload_n 2, 1) := by decide +kernel
theorem dX4_doze_77 : decode cX4_doze 77 = .ok (.ifCond .ge 11, 3) := by decide +kernel
theorem dX4_doze_80 : decode cX4_doze 80 = .ok (.aload_n 0, 1) := by decide +kernel
theorem dX4_doze_81 : decode cX4_doze 81 = .ok (.iconst 3, 1) := by decide +kernel
theorem dX4_doze_82 : decode cX4_doze 82 = .ok (.invokevirtual 92, 3) := by decide +kernel
theorem dX4_doze_85 : decode cX4_doze 85 = .ok (.goto 4, 3) := by decide +kernel
theorem dX4_doze_88 : decode cX4_doze 88 = .ok (.iload_n 2, 1) := by decide +kernel
theorem dX4_doze_89 : decode cX4_doze 89 = .ok (.ireturn, 1) := by decide +kernel
theorem dX4_tense_0 : decode cX4_tense 0 = .ok (.iload_n 1, 1) := by decide +kernel
theorem dX4_tense_1 : decode cX4_tense 1 = .ok (.invokestatic 149, 3) := by decide +kernel
theorem dX4_tense_4 : decode cX4_tense 4 = .ok (.ifCond .eq 17, 3) := by decide +kernel
theorem dX4_tense_7 : decode cX4_tense 7 = .ok (.iload_n 2, 1) := by decide +kernel
theorem dX4_tense_8 : decode cX4_tense 8 = .ok (.i2l, 1) := by decide +kernel
theorem dX4_tense_9 : decode cX4_tense 9 = .ok (.ldc2_w 115, 3) := by decide +kernel
theorem dX4_tense_12 : decode cX4_tense 12 = .ok (.ldc2_w 117, 3) := by decide +kernel
theorem dX4_tense_15 : decode cX4_tense 15 = .ok (.invokestatic 46, 3) := by decide +kernel
theorem dX4_tense_18 : decode cX4_tense 18 = .ok (.ifCond .ne 9, 3) := by decide +kernel
theorem dX4_tense_21 : decode cX4_tense 21 = .ok (.aload_n 0, 1) := by decide +kernel
theorem dX4_tense_22 : decode cX4_tense 22 = .ok (.iconst 0, 1) := by decide +kernel
theorem dX4_tense_23 : decode cX4_tense 23 = .ok (.invokevirtual 92, 3) := by decide +kernel
theorem dX4_tense_26 : decode cX4_tense 26 = .ok (.ireturn, 1) := by decide +kernel
theorem dX4_tense_27 : decode cX4_tense 27 = .ok (.aload_n 0, 1) := by decide +kernel
theorem dX4_tense_28 : decode cX4_tense 28 = .ok (.getfield 7, 3) := by decide +kernel
theorem dX4_tense_31 : decode cX4_tense 31 = .ok (.aload_n 0, 1) := by decide +kernel
theorem dX4_tense_32 : decode cX4_tense 32 = .ok (.getfield 16, 3) := by decide +kernel
theorem dX4_tense_35 : decode cX4_tense 35 = .ok (.invokestatic 129, 3) := by decide +kernel
theorem dX4_tense_38 : decode cX4_tense 38 = .ok (.bipush 20, 2) := by decide +kernel
theorem dX4_tense_40 : decode cX4_tense 40 = .ok (.istore_n 3, 1) := by decide +kernel
theorem dX4_tense_41 : decode cX4_tense 41 = .ok (.iload_n 3, 1) := by decide +kernel
theorem dX4_tense_42 : decode cX4_tense 42 = .ok (.ifCond .lt 47, 3) := by decide +kernel
theorem dX4_tense_45 : decode cX4_tense 45 = .ok (.iconst 0, 1) := by decide +kernel
theorem dX4_tense_46 : decode cX4_tense 46 = .ok (.istore 4, 2) := by decide +kernel
theorem dX4_tense_48 : decode cX4_tense 48 = .ok (.iload 4, 2) := by decide +kernel
theorem dX4_tense_50 : decode cX4_tense 50 = .ok (.bipush 16, 2) := by decide +kernel
theorem dX4_tense_52 : decode cX4_tense 52 = .ok (.if_icmp .ge 20, 3) := by decide +kernel
theorem dX4_tense_55 : decode cX4_tense 55 = .ok (.aload_n 0, 1) := by decide +kernel
theorem dX4_tense_56 : decode cX4_tense 56 = .ok (.getfield 7, 3) := by decide +kernel
theorem dX4_tense_59 : decode cX4_tense 59 = .ok (.bipush 19, 2) := by decide +kernel
theorem dX4_tense_61 : decode cX4_tense 61 = .ok (.iload 4, 2) := by decide +kernel
theorem dX4_tense_63 : decode cX4_tense 63 = .ok (.iadd, 1) := by decide +kernel
theorem dX4_tense_64 : decode cX4_tense 64 = .ok (.iload_n 3, 1) := by decide +kernel
theorem dX4_tense_65 : decode cX4_tense 65 = .ok (.iastore, 1) := by decide +kernel
theorem dX4_tense_66 : decode cX4_tense 66 = .ok (.iinc 4 1, 3) := by decide +kernel
theorem dX4_tense_69 : decode cX4_tense 69 = .ok (.goto (-21), 3) := by decide +kernel
theorem dX4_tense_72 : decode cX4_tense 72 = .ok (.aload_n 0, 1) := by decide +kernel
theorem dX4_tense_73 : decode cX4_tense 73 = .ok (.iload_n 1, 1) := by decide +kernel
theorem dX4_tense_74 : decode cX4_tense 74 = .ok (.invokevirtual 146, 3) := by decide +kernel
theorem dX4_tense_77 : decode cX4_tense 77 = .ok (.iload_n 2, 1) := by decide +kernel
theorem dX4_tense_78 : decode cX4_tense 78 = .ok (.if_icmp .lt 5, 3) := by decide +kernel
theorem dX4_tense_81 : decode cX4_tense 81 = .ok (.iload_n 3, 1) := by decide +kernel
theorem dX4_tense_82 : decode cX4_tense 82 = .ok (.ireturn, 1) := by decide +kernel
theorem dX4_tense_83 : decode cX4_tense 83 = .ok (.iinc 3 (-1), 3) := by decide +kernel
theorem dX4_tense_86 : decode cX4_tense 86 = .ok (.goto (-45), 3) := by decide +kernel
theorem dX4_tense_89 : decode cX4_tense 89 = .ok (.aload_n 0, 1) := by decide +kernel
theorem dX4_tense_90 : decode cX4_tense 90 = .ok (.iconst 3, 1) := by decide +kernel
theorem dX4_tense_91 : decode cX4_tense 91 = .ok (.invokevirtual 92, 3) := by decide +kernel
theorem dX4_tense_94 : decode cX4_tense 94 = .ok (.ireturn, 1) := by decide +kernel
theorem dX4_best_0 : decode cX4_best 0 = .ok (.iload_n 1, 1) := by decide +kernel
theorem dX4_best_1 : decode cX4_best 1 = .ok (.invokestatic 137, 3) := by decide +kernel
theorem dX4_best_4 : decode cX4_best 4 = .ok (.ifCond .ne 9, 3) := by decide +kernel
theorem dX4_best_7 : decode cX4_best 7 = .ok (.aload_n 0, 1) := by decide +kernel
theorem dX4_best_8 : decode cX4_best 8 = .ok (.iconst 0, 1) := by decide +kernel
theorem dX4_best_9 : decode cX4_best 9 = .ok (.invokevirtual 92, 3) := by decide +kernel
theorem dX4_best_12 : decode cX4_best 12 = .ok (.ireturn, 1) := by decide +kernel
theorem dX4_best_13 : decode cX4_best 13 = .ok (.aload_n 0, 1) := by decide +kernel
theorem dX4_best_14 : decode cX4_best 14 = .ok (.getfield 7, 3) := by decide +kernel
theorem dX4_best_17 : decode cX4_best 17 = .ok (.aload_n 0, 1) := by decide +kernel
theorem dX4_best_18 : decode cX4_best 18 = .ok (.getfield 16, 3) := by decide +kernel
theorem dX4_best_21 : decode cX4_best 21 = .ok (.invokestatic 129, 3) := by decide +kernel
theorem dX4_best_24 : decode cX4_best 24 = .ok (.aload_n 0, 1) := by decide +kernel
theorem dX4_best_25 : decode cX4_best 25 = .ok (.iload_n 1, 1) := by decide +kernel
theorem dX4_best_26 : decode cX4_best 26 = .ok (.invokevirtual 125, 3) := by decide +kernel
theorem dX4_best_29 : decode cX4_best 29 = .ok (.iconst (-1), 1) := by decide +kernel
theorem dX4_best_30 : decode cX4_best 30 = .ok (.istore_n 2, 1) := by decide +kernel
theorem dX4_best_31 : decode cX4_best 31 = .ok (.iconst 0, 1) := by decide +kernel
theorem dX4_best_32 : decode cX4_best 32 = .ok (.istore_n 3, 1) := by decide +kernel
theorem dX4_best_33 : decode cX4_best 33 = .ok (.iload_n 3, 1) := by decide +kernel
theorem dX4_best_34 : decode cX4_best 34 = .ok (.aload_n 0, 1) := by decide +kernel
theorem dX4_best_35 : decode cX4_best 35 = .ok (.getfield 7, 3) := by decide +kernel
theorem dX4_best_38 : decode cX4_best 38 = .ok (.iconst 0, 1) := by decide +kernel
theorem dX4_best_39 : decode cX4_best 39 = .ok (.iaload, 1) := by decide +kernel
theorem dX4_best_40 : decode cX4_best 40 = .ok (.if_icmp .ge 34, 3) := by decide +kernel
theorem dX4_best_43 : decode cX4_best 43 = .ok (.iload_n 2, 1) := by decide +kernel
theorem dX4_best_44 : decode cX4_best 44 = .ok (.ifCond .lt 18, 3) := by decide +kernel
theorem dX4_best_47 : decode cX4_best 47 = .ok (.aload_n 0, 1) := by decide +kernel
theorem dX4_best_48 : decode cX4_best 48 = .ok (.iload_n 3, 1) := by decide +kernel
theorem dX4_best_49 : decode cX4_best 49 = .ok (.iconst 2, 1) := by decide +kernel
theorem dX4_best_50 : decode cX4_best 50 = .ok (.invokevirtual 54, 3) := by decide +kernel
theorem dX4_best_53 : decode cX4_best 53 = .ok (.aload_n 0, 1) := by decide +kernel
theorem dX4_best_54 : decode cX4_best 54 = .ok (.iload_n 2, 1) := by decide +kernel
theorem dX4_best_55 : decode cX4_best 55 = .ok (.iconst 2, 1) := by decide +kernel
theorem dX4_best_56 : decode cX4_best 56 = .ok (.invokevirtual 54, 3) := by decide +kernel
theorem dX4_best_59 : decode cX4_best 59 = .ok (.if_icmp .le 7, 3) := by decide +kernel
theorem dX4_best_62 : decode cX4_best 62 = .ok (.iload_n 3, 1) := by decide +kernel
theorem dX4_best_63 : decode cX4_best 63 = .ok (.goto 4, 3) := by decide +kernel
theorem dX4_best_66 : decode cX4_best 66 = .ok (.iload_n 2, 1) := by decide +kernel
theorem dX4_best_67 : decode cX4_best 67 = .ok (.istore_n 2, 1) := by decide +kernel
theorem dX4_best_68 : decode cX4_best 68 = .ok (.iinc 3 1, 3) := by decide +kernel
theorem dX4_best_71 : decode cX4_best 71 = .ok (.goto (-38), 3) := by decide +kernel
theorem dX4_best_74 : decode cX4_best 74 = .ok (.aload_n 0, 1) := by decide +kernel
