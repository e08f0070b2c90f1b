theorem dX0_init_0 : decode cX0_init 0 = .ok (.aload_n 0, 1) := by decide +kernel
theorem dX0_init_1 : decode cX0_init 1 = .ok (.invokespecial 3, 3) := by decide +kernel
theorem dX0_init_4 : decode cX0_init 4 = .ok (.aload_n 0, 1) := by decide +kernel
theorem dX0_init_5 : decode cX0_init 5 = .ok (.iconst 0, 1) := by decide +kernel
theorem dX0_init_6 : decode cX0_init 6 = .ok (.putfield 9, 3) := by decide +kernel
theorem dX0_init_9 : decode cX0_init 9 = .ok (.aload_n 0, 1) := by decide +kernel
theorem dX0_init_10 : decode cX0_init 10 = .ok (.iconst 0, 1) := by decide +kernel
theorem dX0_init_11 : decode cX0_init 11 = .ok (.putfield 15, 3) := by decide +kernel
theorem dX0_init_14 : decode cX0_init 14 = .ok (.aload_n 0, 1) := by decide +kernel
theorem dX0_init_15 : decode cX0_init 15 = .ok (.iconst 0, 1) := by decide +kernel
theorem dX0_init_16 : decode cX0_init 16 = .ok (.putfield 18, 3) := by decide +kernel
theorem dX0_init_19 : decode cX0_init 19 = .ok (.aload_n 0, 1) := by decide +kernel
theorem dX0_init_20 : decode cX0_init 20 = .ok (.bipush 16, 2) := by decide +kernel
theorem dX0_init_22 : decode cX0_init 22 = .ok (.newarray .int, 2) := by decide +kernel
theorem dX0_init_24 : decode cX0_init 24 = .ok (.putfield 21, 3) := by decide +kernel
theorem dX0_init_27 : decode cX0_init 27 = .ok (.aload_n 0, 1) := by decide +kernel
theorem dX0_init_28 : decode cX0_init 28 = .ok (.bipush 16, 2) := by decide +kernel
theorem dX0_init_30 : decode cX0_init 30 = .ok (.newarray .int, 2) := by decide +kernel
theorem dX0_init_32 : decode cX0_init 32 = .ok (.putfield 25, 3) := by decide +kernel
theorem dX0_init_35 : decode cX0_init 35 = .ok (.aload_n 0, 1) := by decide +kernel
theorem dX0_init_36 : decode cX0_init 36 = .ok (.bipush 8, 2) := by decide +kernel
theorem dX0_init_38 : decode cX0_init 38 = .ok (.newarray .int, 2) := by decide +kernel
theorem dX0_init_40 : decode cX0_init 40 = .ok (.putfield 28, 3) := by decide +kernel
theorem dX0_init_43 : decode cX0_init 43 = .ok (.aload_n 0, 1) := by decide +kernel
theorem dX0_init_44 : decode cX0_init 44 = .ok (.bipush 8, 2) := by decide +kernel
theorem dX0_init_46 : decode cX0_init 46 = .ok (.newarray .int, 2) := by decide +kernel
theorem dX0_init_48 : decode cX0_init 48 = .ok (.putfield 31, 3) := by decide +kernel
theorem dX0_init_51 : decode cX0_init 51 = .ok (.aload_n 0, 1) := by decide +kernel
theorem dX0_init_52 : decode cX0_init 52 = .ok (.bipush 8, 2) := by decide +kernel
theorem dX0_init_54 : decode cX0_init 54 = .ok (.newarray .int, 2) := by decide +kernel
theorem dX0_init_56 : decode cX0_init 56 = .ok (.putfield 34, 3) := by decide +kernel
theorem dX0_init_59 : decode cX0_init 59 = .ok (.aload_n 0, 1) := by decide +kernel
theorem dX0_init_60 : decode cX0_init 60 = .ok (.bipush 8, 2) := by decide +kernel
theorem dX0_init_62 : decode cX0_init 62 = .ok (.newarray .int, 2) := by decide +kernel
theorem dX0_init_64 : decode cX0_init 64 = .ok (.putfield 37, 3) := by decide +kernel
theorem dX0_init_67 : decode cX0_init 67 = .ok (.aload_n 0, 1) := by decide +kernel
theorem dX0_init_68 : decode cX0_init 68 = .ok (.bipush 8, 2) := by decide +kernel
theorem dX0_init_70 : decode cX0_init 70 = .ok (.newarray .int, 2) := by decide +kernel
theorem dX0_init_72 : decode cX0_init 72 = .ok (.putfield 40, 3) := by decide +kernel
theorem dX0_init_75 : decode cX0_init 75 = .ok (.iconst 0, 1) := by decide +kernel
theorem dX0_init_76 : decode cX0_init 76 = .ok (.istore_n 1, 1) := by decide +kernel
theorem dX0_init_77 : decode cX0_init 77 = .ok (.iload_n 1, 1) := by decide +kernel
theorem dX0_init_78 : decode cX0_init 78 = .ok (.bipush 16, 2) := by decide +kernel
theorem dX0_init_80 : decode cX0_init 80 = .ok (.if_icmp .ge 25, 3) := by decide +kernel
theorem dX0_init_83 : decode cX0_init 83 = .ok (.aload_n 0, 1) := by decide +kernel
theorem dX0_init_84 : decode cX0_init 84 = .ok (.getfield 21, 3) := by decide +kernel
theorem dX0_init_87 : decode cX0_init 87 = .ok (.iload_n 1, 1) := by decide +kernel
theorem dX0_init_88 : decode cX0_init 88 = .ok (.iload_n 1, 1) := by decide +kernel
theorem dX0_init_89 : decode cX0_init 89 = .ok (.iconst 5, 1) := by decide +kernel
theorem dX0_init_90 : decode cX0_init 90 = .ok (.irem, 1) := by decide +kernel
theorem dX0_init_91 : decode cX0_init 91 = .ok (.iastore, 1) := by decide +kernel
theorem dX0_init_92 : decode cX0_init 92 = .ok (.aload_n 0, 1) := by decide +kernel
theorem dX0_init_93 : decode cX0_init 93 = .ok (.getfield 25, 3) := by decide +kernel
theorem dX0_init_96 : decode cX0_init 96 = .ok (.iload_n 1, 1) := by decide +kernel
theorem dX0_init_97 : decode cX0_init 97 = .ok (.iconst 5, 1) := by decide +kernel
theorem dX0_init_98 : decode cX0_init 98 = .ok (.iastore, 1) := by decide +kernel
theorem dX0_init_99 : decode cX0_init 99 = .ok (.iinc 1 1, 3) := by decide +kernel
theorem dX0_init_102 : decode cX0_init 102 = .ok (.goto (-25), 3) := by decide +kernel
theorem dX0_init_105 : decode cX0_init 105 = .ok (.return_, 1) := by decide +kernel
theorem dX0_become_0 : decode cX0_become 0 = .ok (.aload_n 0, 1) := by decide +kernel
theorem dX0_become_1 : decode cX0_become 1 = .ok (.aload_n 1, 1) := by decide +kernel
theorem dX0_become_2 : decode cX0_become 2 = .ok (.getfield 9, 3) := by decide +kernel
theorem dX0_become_5 : decode cX0_become 5 = .ok (.putfield 9, 3) := by decide +kernel
theorem dX0_become_8 : decode cX0_become 8 = .ok (.aload_n 0, 1) := by decide +kernel
theorem dX0_become_9 : decode cX0_become 9 = .ok (.aload_n 1, 1) := by decide +kernel
theorem dX0_become_10 : decode cX0_become 10 = .ok (.getfield 15, 3) := by decide +kernel
theorem dX0_become_13 : decode cX0_become 13 = .ok (.putfield 15, 3) := by decide +kernel
theorem dX0_become_16 : decode cX0_become 16 = .ok (.aload_n 0, 1) := by decide +kernel
theorem dX0_become_17 : decode cX0_become 17 = .ok (.aload_n 1, 1) := by decide +kernel
theorem dX0_become_18 : decode cX0_become 18 = .ok (.getfield 18, 3) := by decide +kernel
theorem dX0_become_21 : decode cX0_become 21 = .ok (.putfield 18, 3) := by decide +kernel
theorem dX0_become_24 : decode cX0_become 24 = .ok (.aload_n 1, 1) := by decide +kernel
theorem dX0_become_25 : decode cX0_become 25 = .ok (.getfield 21, 3) := by decide +kernel
theorem dX0_become_28 : decode cX0_become 28 = .ok (.iconst 0, 1) := by decide +kernel
theorem dX0_become_29 : decode cX0_become 29 = .ok (.aload_n 0, 1) := by decide +kernel
theorem dX0_become_30 : decode cX0_become 30 = .ok (.getfield 21, 3) := by decide +kernel
theorem dX0_become_33 : decode cX0_become 33 = .ok (.iconst 0, 1) := by decide +kernel
theorem dX0_become_34 : decode cX0_become 34 = .ok (.bipush 16, 2) := by decide +kernel
theorem dX0_become_36 : decode cX0_become 36 = .ok (.invokestatic 43, 3) := by decide +kernel
theorem dX0_become_39 : decode cX0_become 39 = .ok (.aload_n 1, 1) := by decide +kernel
theorem dX0_become_40 : decode cX0_become 40 = .ok (.getfield 25, 3) := by decide +kernel
theorem dX0_become_43 : decode cX0_become 43 = .ok (.iconst 0, 1) := by decide +kernel
theorem dX0_become_44 : decode cX0_become 44 = .ok (.aload_n 0, 1) := by decide +kernel
theorem dX0_become_45 : decode cX0_become 45 = .ok (.getfield 25, 3) := by decide +kernel
theorem dX0_become_48 : decode cX0_become 48 = .ok (.iconst 0, 1) := by decide +kernel
theorem dX0_become_49 : decode cX0_become 49 = .ok (.bipush 16, 2) := by decide +kernel
theorem dX0_become_51 : decode cX0_become 51 = .ok (.invokestatic 43, 3) := by decide +kernel
theorem dX0_become_54 : decode cX0_become 54 = .ok (.aload_n 1, 1) := by decide +kernel
theorem dX0_become_55 : decode cX0_become 55 = .ok (.getfield 28, 3) := by decide +kernel
theorem dX0_become_58 : decode cX0_become 58 = .ok (.iconst 0, 1) := by decide +kernel
theorem dX0_become_59 : decode cX0_become 59 = .ok (.aload_n 0, 1) := by decide +kernel
theorem dX0_become_60 : decode cX0_become 60 = .ok (.getfield 28, 3) := by decide +kernel
theorem dX0_become_63 : decode cX0_become 63 = .ok (.iconst 0, 1) := by decide +kernel
theorem dX0_become_64 : decode cX0_become 64 = .ok (.aload_n 0, 1) := by decide +kernel
theorem dX0_become_65 : decode cX0_become 65 = .ok (.getfield 18, 3) := by decide +kernel
theorem dX0_become_68 : decode cX0_become 68 = .ok (.invokestatic 43, 3) := by decide +kernel
theorem dX0_become_71 : decode cX0_become 71 = .ok (.aload_n 1, 1) := by decide +kernel
theorem dX0_become_72 : decode cX0_become 72 = .ok (.getfield 31, 3) := by decide +kernel
theorem dX0_become_75 : decode cX0_become 75 = .ok (.iconst 0, 1) := by decide +kernel
theorem dX0_become_76 : decode cX0_become 76 = .ok (.aload_n 0, 1) := by decide +kernel
theorem dX0_become_77 : decode cX0_become 77 = .ok (.getfield 31, 3) := by decide +kernel
theorem dX0_become_80 : decode cX0_become 80 = .ok (.iconst 0, 1) := by decide +kernel
theorem dX0_become_81 : decode cX0_become 81 = .ok (.aload_n 0, 1) := by decide +kernel
theorem dX0_become_82 : decode cX0_become 82 = .ok (.getfield 18, 3) := by decide +kernel
theorem dX0_become_85 : decode cX0_become 85 = .ok (.invokestatic 43, 3) := by decide +kernel
theorem dX0_become_88 : decode cX0_become 88 = .ok (.aload_n 1, 1) := by decide +kernel
theorem dX0_become_89 : decode cX0_become 89 = .ok (.getfield 34, 3) := by decide +kernel
theorem dX0_become_92 : decode cX0_become 92 = .ok (.iconst 0, 1) := by decide +kernel
theorem dX0_become_93 : decode cX0_become 93 = .ok (.aload_n 0, 1) := by decide +kernel
theorem dX0_become_94 : decode cX0_become 94 = .ok (.getfield 34, 3) := by decide +kernel
theorem dX0_become_97 : decode cX0_become 97 = .ok (.iconst 0, 1) := by decide +kernel
theorem dX0_become_98 : decode cX0_become 98 = .ok (.aload_n 0, 1) := by decide +kernel
theorem dX0_become_99 : decode cX0_become 99 = .ok (.getfield 18, 3) := by decide +kernel
theorem dX0_become_102 : decode cX0_become 102 = .ok (.invokestatic 43, 3) := by decide +kernel
theorem dX0_become_105 : decode cX0_become 105 = .ok (.aload_n 1, 1) := by decide +kernel
theorem dX0_become_106 : decode cX0_become 106 = .ok (.getfield 37, 3) := by decide +kernel
theorem dX0_become_109 : decode cX0_become 109 = .ok (.iconst 0, 1) := by decide +kernel
theorem dX0_become_110 : decode cX0_become 110 = .ok (.aload_n 0, 1) := by decide +kernel
theorem dX0_become_111 : decode cX0_become 111 = .ok (.getfield 37, 3) := by decide +kernel
theorem dX0_become_114 : decode cX0_become 114 = .ok (.iconst 0, 1) := by decide +kernel
theorem dX0_become_115 : decode cX0_become 115 = .ok (.aload_n 0, 1) := by decide +kernel
theorem dX0_become_116 : decode cX0_become 116 = .ok (.getfield 18, 3) := by decide +kernel
theorem dX0_become_119 : decode cX0_become 119 = .ok (.invokestatic 43, 3) := by decide +kernel
theorem dX0_become_122 : decode cX0_become 122 = .ok (.return_, 1) := by decide +kernel
theorem dX0_seat_0 : decode cX0_seat 0 = .ok (.aload_n 0, 1) := by decide +kernel
theorem dX0_seat_1 : decode cX0_seat 1 = .ok (.getfield 18, 3) := by decide +kernel
theorem dX0_seat_4 : decode cX0_seat 4 = .ok (.istore_n 3, 1) := by decide +kernel
theorem dX0_seat_5 : decode cX0_seat 5 = .ok (.iload_n 3, 1) := by decide +kernel
theorem dX0_seat_6 : decode cX0_seat 6 = .ok (.bipush 8, 2) := by decide +kernel
theorem dX0_seat_8 : decode cX0_seat 8 = .ok (.if_icmp .ge 41, 3) := by decide +kernel
theorem dX0_seat_11 : decode cX0_seat 11 = .ok (.aload_n 0, 1) := by decide +kernel
theorem dX0_seat_12 : decode cX0_seat 12 = .ok (.getfield 28, 3) := by decide +kernel
theorem dX0_seat_15 : decode cX0_seat 15 = .ok (.iload_n 3, 1) := by decide +kernel
theorem dX0_seat_16 : decode cX0_seat 16 = .ok (.iload_n 1, 1) := by decide +kernel
theorem dX0_seat_17 : decode cX0_seat 17 = .ok (.iastore, 1) := by decide +kernel
theorem dX0_seat_18 : decode cX0_seat 18 = .ok (.aload_n 0, 1) := by decide +kernel
theorem dX0_seat_19 : decode cX0_seat 19 = .ok (.getfield 31, 3) := by decide +kernel
theorem dX0_seat_22 : decode cX0_seat 22 = .ok (.iload_n 3, 1) := by decide +kernel
theorem dX0_seat_23 : decode cX0_seat 23 = .ok (.iload_n 2, 1) := by decide +kernel
theorem dX0_seat_24 : decode cX0_seat 24 = .ok (.iastore, 1) := by decide +kernel
theorem dX0_seat_25 : decode cX0_seat 25 = .ok (.aload_n 0, 1) := by decide +kernel
theorem dX0_seat_26 : decode cX0_seat 26 = .ok (.getfield 34, 3) := by decide +kernel
theorem dX0_seat_29 : decode cX0_seat 29 = .ok (.iload_n 3, 1) := by decide +kernel
theorem dX0_seat_30 : decode cX0_seat 30 = .ok (.iconst 0, 1) := by decide +kernel
theorem dX0_seat_31 : decode cX0_seat 31 = .ok (.iastore, 1) := by decide +kernel
theorem dX0_seat_32 : decode cX0_seat 32 = .ok (.aload_n 0, 1) := by decide +kernel
theorem dX0_seat_33 : decode cX0_seat 33 = .ok (.getfield 37, 3) := by decide +kernel
theorem dX0_seat_36 : decode cX0_seat 36 = .ok (.iload_n 3, 1) := by decide +kernel
theorem dX0_seat_37 : decode cX0_seat 37 = .ok (.iconst 0, 1) := by decide +kernel
theorem dX0_seat_38 : decode cX0_seat 38 = .ok (.iastore, 1) := by decide +kernel
theorem dX0_seat_39 : decode cX0_seat 39 = .ok (.aload_n 0, 1) := by decide +kernel
theorem dX0_seat_40 : decode cX0_seat 40 = .ok (.dup, 1) := by decide +kernel
theorem dX0_seat_41 : decode cX0_seat 41 = .ok (.getfield 18, 3) := by decide +kernel
theorem dX0_seat_44 : decode cX0_seat 44 = .ok (.iconst 1, 1) := by decide +kernel
theorem dX0_seat_45 : decode cX0_seat 45 = .ok (.iadd, 1) := by decide +kernel
theorem dX0_seat_46 : decode cX0_seat 46 = .ok (.putfield 18, 3) := by decide +kernel
theorem dX0_seat_49 : decode cX0_seat 49 = .ok (.iload_n 3, 1) := by decide +kernel
theorem dX0_seat_50 : decode cX0_seat 50 = .ok (.ireturn, 1) := by decide +kernel
theorem dX0_changeSeats_0 : decode cX0_changeSeats 0 = .ok (.aload_n 0, 1) := by decide +kernel
theorem dX0_changeSeats_1 : decode cX0_changeSeats 1 = .ok (.getfield 28, 3) := by decide +kernel
theorem dX0_changeSeats_4 : decode cX0_changeSeats 4 = .ok (.iload_n 1, 1) := by decide +kernel
theorem dX0_changeSeats_5 : decode cX0_changeSeats 5 = .ok (.iload_n 2, 1) := by decide +kernel
theorem dX0_changeSeats_6 : decode cX0_changeSeats 6 = .ok (.invokestatic 49, 3) := by decide +kernel
theorem dX0_changeSeats_9 : decode cX0_changeSeats 9 = .ok (.aload_n 0, 1) := by decide +kernel
theorem dX0_changeSeats_10 : decode cX0_changeSeats 10 = .ok (.getfield 31, 3) := by decide +kernel
theorem dX0_changeSeats_13 : decode cX0_changeSeats 13 = .ok (.iload_n 1, 1) := by decide +kernel
theorem dX0_changeSeats_14 : decode cX0_changeSeats 14 = .ok (.iload_n 2, 1) := by decide +kernel
theorem dX0_changeSeats_15 : decode cX0_changeSeats 15 = .ok (.invokestatic 49, 3) := by decide +kernel
theorem dX0_changeSeats_18 : decode cX0_changeSeats 18 = .ok (.aload_n 0, 1) := by decide +kernel
theorem dX0_changeSeats_19 : decode cX0_changeSeats 19 = .ok (.getfield 34, 3) := by decide +kernel
theorem dX0_changeSeats_22 : decode cX0_changeSeats 22 = .ok (.iload_n 1, 1) := by decide +kernel
theorem dX0_changeSeats_23 : decode cX0_changeSeats 23 = .ok (.iload_n 2, 1) := by decide +kernel
theorem dX0_changeSeats_24 : decode cX0_changeSeats 24 = .ok (.invokestatic 49, 3) := by decide +kernel
theorem dX0_changeSeats_27 : decode cX0_changeSeats 27 = .ok (.aload_n 0, 1) := by decide +kernel
theorem dX0_changeSeats_28 : decode cX0_changeSeats 28 = .ok (.getfield 37, 3) := by decide +kernel
theorem dX0_changeSeats_31 : decode cX0_changeSeats 31 = .ok (.iload_n 1, 1) := by decide +kernel
theorem dX0_changeSeats_32 : decode cX0_changeSeats 32 = .ok (.iload_n 2, 1) := by decide +kernel
theorem dX0_changeSeats_33 : decode cX0_changeSeats 33 = .ok (.invokestatic 49, 3) := by decide +kernel
theorem dX0_changeSeats_36 : decode cX0_changeSeats 36 = .ok (.return_, 1) := by decide +kernel
theorem dX0_exchange_0 : decode cX0_exchange 0 = .ok (.aload_n 0, 1) := by decide +kernel
theorem dX0_exchange_1 : decode cX0_exchange 1 = .ok (.iload_n 1, 1) := by decide +kernel
theorem dX0_exchange_2 : decode cX0_exchange 2 = .ok (.iaload, 1) := by decide +kernel
theorem dX0_exchange_3 : decode cX0_exchange 3 = .ok (.istore_n 3, 1) := by decide +kernel
theorem dX0_exchange_4 : decode cX0_exchange 4 = .ok (.aload_n 0, 1) := by decide +kernel
theorem dX0_exchange_5 : decode cX0_exchange 5 = .ok (.iload_n 1, 1) := by decide +kernel
theorem dX0_exchange_6 : decode cX0_exchange 6 = .ok (.aload_n 0, 1) := by decide +kernel
theorem dX0_exchange_7 : decode cX0_exchange 7 = .ok (.iload_n 2, 1) := by decide +kernel
theorem dX0_exchange_8 : decode cX0_exchange 8 = .ok (.iaload, 1) := by decide +kernel
theorem dX0_exchange_9 : decode cX0_exchange 9 = .ok (.iastore, 1) := by decide +kernel
theorem dX0_exchange_10 : decode cX0_exchange 10 = .ok (.aload_n 0, 1) := by decide +kernel
theorem dX0_exchange_11 : decode cX0_exchange 11 = .ok (.iload_n 2, 1) := by decide +kernel
theorem dX0_exchange_12 : decode cX0_exchange 12 = .ok (.iload_n 3, 1) := by decide +kernel
theorem dX0_exchange_13 : decode cX0_exchange 13 = .ok (.iastore, 1) := by decide +kernel
theorem dX0_exchange_14 : decode cX0_exchange 14 = .ok (.return_, 1) := by decide +kernel
theorem dX0_tenseAll_0 : decode cX0_tenseAll 0 = .ok (.iconst 0, 1) := by decide +kernel
theorem dX0_tenseAll_1 : decode cX0_tenseAll 1 = .ok (.istore_n 2, 1) := by decide +kernel
theorem dX0_tenseAll_2 : decode cX0_tenseAll 2 = .ok (.iload_n 2, 1) := by decide +kernel
theorem dX0_tenseAll_3 : decode cX0_tenseAll 3 = .ok (.bipush 16, 2) := by decide +kernel
theorem dX0_tenseAll_5 : decode cX0_tenseAll 5 = .ok (.if_icmp .ge 16, 3) := by decide +kernel
theorem dX0_tenseAll_8 : decode cX0_tenseAll 8 = .ok (.aload_n 0, 1) := by decide +kernel
theorem dX0_tenseAll_9 : decode cX0_tenseAll 9 = .ok (.getfield 25, 3) := by decide +kernel
theorem dX0_tenseAll_12 : decode cX0_tenseAll 12 = .ok (.iload_n 2, 1) := by decide +kernel
theorem dX0_tenseAll_13 : decode cX0_tenseAll 13 = .ok (.iload_n 1, 1) := by decide +kernel
theorem dX0_tenseAll_14 : decode cX0_tenseAll 14 = .ok (.iastore, 1) := by decide +kernel
theorem dX0_tenseAll_15 : decode cX0_tenseAll 15 = .ok (.iinc 2 1, 3) := by decide +kernel
theorem dX0_tenseAll_18 : decode cX0_tenseAll 18 = .ok (.goto (-16), 3) := by decide +kernel
theorem dX0_tenseAll_21 : decode cX0_tenseAll 21 = .ok (.return_, 1) := by decide +kernel
theorem dX0_allNotes_0 : decode cX0_allNotes 0 = .ok (.aload_n 0, 1) := by decide +kernel
theorem dX0_allNotes_1 : decode cX0_allNotes 1 = .ok (.getfield 34, 3) := by decide +kernel
theorem dX0_allNotes_4 : decode cX0_allNotes 4 = .ok (.aload_n 0, 1) := by decide +kernel
theorem dX0_allNotes_5 : decode cX0_allNotes 5 = .ok (.getfield 18, 3) := by decide +kernel
theorem dX0_allNotes_8 : decode cX0_allNotes 8 = .ok (.invokestatic 53, 3) := by decide +kernel
theorem dX0_allNotes_11 : decode cX0_allNotes 11 = .ok (.ireturn, 1) := by decide +kernel
theorem dX0_allFresh_0 : decode cX0_allFresh 0 = .ok (.aload_n 0, 1) := by decide +kernel
theorem dX0_allFresh_1 : decode cX0_allFresh 1 = .ok (.getfield 31, 3) := by decide +kernel
theorem dX0_allFresh_4 : decode cX0_allFresh 4 = .ok (.aload_n 0, 1) := by decide +kernel
theorem dX0_allFresh_5 : decode cX0_allFresh 5 = .ok (.getfield 18, 3) := by decide +kernel
theorem dX0_allFresh_8 : decode cX0_allFresh 8 = .ok (.invokestatic 53, 3) := by decide +kernel
theorem dX0_allFresh_11 : decode cX0_allFresh 11 = .ok (.ireturn, 1) := by decide +kernel
theorem dX0_allTense_0 : decode cX0_allTense 0 = .ok (.aload_n 0, 1) := by decide +kernel
theorem dX0_allTense_1 : decode cX0_allTense 1 = .ok (.getfield 25, 3) := by decide +kernel
theorem dX0_allTense_4 : decode cX0_allTense 4 = .ok (.bipush 16, 2) := by decide +kernel
theorem dX0_allTense_6 : decode cX0_allTense 6 = .ok (.invokestatic 53, 3) := by decide +kernel
theorem dX0_allTense_9 : decode cX0_allTense 9 = .ok (.ireturn, 1) := by decide +kernel
theorem dX0_sum_0 : decode cX0_sum 0 = .ok (.iconst 0, 1) := by decide +kernel
theorem dX0_sum_1 : decode cX0_sum 1 = .ok (.istore_n 2, 1) := by decide +kernel
theorem dX0_sum_2 : decode cX0_sum 2 = .ok (.iconst 0, 1) := by decide +kernel
theorem dX0_sum_3 : decode cX0_sum 3 = .ok (.istore_n 3, 1) := by decide +kernel
theorem dX0_sum_4 : decode cX0_sum 4 = .ok (.iload_n 3, 1) := by decide +kernel
theorem dX0_sum_5 : decode cX0_sum 5 = .ok (.iload_n 1, 1) := by decide +kernel
theorem dX0_sum_6 : decode cX0_sum 6 = .ok (.if_icmp .ge 15, 3) := by decide +kernel
theorem dX0_sum_9 : decode cX0_sum 9 = .ok (.iload_n 2, 1) := by decide +kernel
theorem dX0_sum_10 : decode cX0_sum 10 = .ok (.aload_n 0, 1) := by decide +kernel
theorem dX0_sum_11 : decode cX0_sum 11 = .ok (.iload_n 3, 1) := by decide +kernel
theorem dX0_sum_12 : decode cX0_sum 12 = .ok (.iaload, 1) := by decide +kernel
theorem dX0_sum_13 : decode cX0_sum 13 = .ok (.iadd, 1) := by decide +kernel
theorem dX0_sum_14 : decode cX0_sum 14 = .ok (.istore_n 2, 1) := by decide +kernel
theorem dX0_sum_15 : decode cX0_sum 15 = .ok (.iinc 3 1, 3) := by decide +kernel
theorem dX0_sum_18 : decode cX0_sum 18 = .ok (.goto (-14), 3) := by decide +kernel
theorem dX0_sum_21 : decode cX0_sum 21 = .ok (.iload_n 2, 1) := by decide +kernel
theorem dX0_sum_22 : decode cX0_sum 22 = .ok (.ireturn, 1) := by decide +kernel
theorem dX0_whoDoAsAsked_0 : decode cX0_whoDoAsAsked 0 = .ok (.iconst 0, 1) := by decide +kernel
theorem dX0_whoDoAsAsked_1 : decode cX0_whoDoAsAsked 1 = .ok (.istore_n 1, 1) := by decide +kernel
theorem dX0_whoDoAsAsked_2 : decode cX0_whoDoAsAsked 2 = .ok (.iconst 0, 1) := by decide +kernel
theorem dX0_whoDoAsAsked_3 : decode cX0_whoDoAsAsked 3 = .ok (.istore_n 2, 1) := by decide +kernel
theorem dX0_whoDoAsAsked_4 : decode cX0_whoDoAsAsked 4 = .ok (.iload_n 2, 1) := by decide +kernel
theorem dX0_whoDoAsAsked_5 : decode cX0_whoDoAsAsked 5 = .ok (.aload_n 0, 1) := by decide +kernel
theorem dX0_whoDoAsAsked_6 : decode cX0_whoDoAsAsked 6 = .ok (.getfield 18, 3) := by decide +kernel
theorem dX0_whoDoAsAsked_9 : decode cX0_whoDoAsAsked 9 = .ok (.if_icmp .ge 32, 3) := by decide +kernel
theorem dX0_whoDoAsAsked_12 : decode cX0_whoDoAsAsked 12 = .ok (.aload_n 0, 1) := by decide +kernel
theorem dX0_whoDoAsAsked_13 : decode cX0_whoDoAsAsked 13 = .ok (.iload_n 2, 1) := by decide +kernel
theorem dX0_whoDoAsAsked_14 : decode cX0_whoDoAsAsked 14 = .ok (.invokevirtual 57, 3) := by decide +kernel
theorem dX0_whoDoAsAsked_17 : decode cX0_whoDoAsAsked 17 = .ok (.aload_n 0, 1) := by decide +kernel
theorem dX0_whoDoAsAsked_18 : decode cX0_whoDoAsAsked 18 = .ok (.getfield 21, 3) := by decide +kernel
theorem dX0_whoDoAsAsked_21 : decode cX0_whoDoAsAsked 21 = .ok (.aload_n 0, 1) := by decide +kernel
theorem dX0_whoDoAsAsked_22 : decode cX0_whoDoAsAsked 22 = .ok (.getfield 15, 3) := by decide +kernel
theorem dX0_whoDoAsAsked_25 : decode cX0_whoDoAsAsked 25 = .ok (.iaload, 1) := by decide +kernel
theorem dX0_whoDoAsAsked_26 : decode cX0_whoDoAsAsked 26 = .ok (.if_icmp .ne 9, 3) := by decide +kernel
theorem dX0_whoDoAsAsked_29 : decode cX0_whoDoAsAsked 29 = .ok (.iload_n 1, 1) := by decide +kernel
theorem dX0_whoDoAsAsked_30 : decode cX0_whoDoAsAsked 30 = .ok (.iconst 1, 1) := by decide +kernel
theorem dX0_whoDoAsAsked_31 : decode cX0_whoDoAsAsked 31 = .ok (.iload_n 2, 1) := by decide +kernel
theorem dX0_whoDoAsAsked_32 : decode cX0_whoDoAsAsked 32 = .ok (.ishl, 1) := by decide +kernel
theorem dX0_whoDoAsAsked_33 : decode cX0_whoDoAsAsked 33 = .ok (.ior, 1) := by decide +kernel
theorem dX0_whoDoAsAsked_34 : decode cX0_whoDoAsAsked 34 = .ok (.istore_n 1, 1) := by decide +kernel
theorem dX0_whoDoAsAsked_35 : decode cX0_whoDoAsAsked 35 = .ok (.iinc 2 1, 3) := by decide +kernel
theorem dX0_whoDoAsAsked_38 : decode cX0_whoDoAsAsked 38 = .ok (.goto (-34), 3) := by decide +kernel
theorem dX0_whoDoAsAsked_41 : decode cX0_whoDoAsAsked 41 = .ok (.iload_n 1, 1) := by decide +kernel
theorem dX0_whoDoAsAsked_42 : decode cX0_whoDoAsAsked 42 = .ok (.ireturn, 1) := by decide +kernel
theorem dX0_howManyDo_0 : decode cX0_howManyDo 0 = .ok (.iconst 0, 1) := by decide +kernel
theorem dX0_howManyDo_1 : decode cX0_howManyDo 1 = .ok (.istore_n 2, 1) := by decide +kernel
theorem dX0_howManyDo_2 : decode cX0_howManyDo 2 = .ok (.iconst 0, 1) := by decide +kernel
theorem dX0_howManyDo_3 : decode cX0_howManyDo 3 = .ok (.istore_n 3, 1) := by decide +kernel
theorem dX0_howManyDo_4 : decode cX0_howManyDo 4 = .ok (.iload_n 3, 1) := by decide +kernel
theorem dX0_howManyDo_5 : decode cX0_howManyDo 5 = .ok (.aload_n 0, 1) := by decide +kernel
theorem dX0_howManyDo_6 : decode cX0_howManyDo 6 = .ok (.getfield 18, 3) := by decide +kernel
theorem dX0_howManyDo_9 : decode cX0_howManyDo 9 = .ok (.if_icmp .ge 21, 3) := by decide +kernel
theorem dX0_howManyDo_12 : decode cX0_howManyDo 12 = .ok (.aload_n 0, 1) := by decide +kernel
theorem dX0_howManyDo_13 : decode cX0_howManyDo 13 = .ok (.iload_n 3, 1) := by decide +kernel
theorem dX0_howManyDo_14 : decode cX0_howManyDo 14 = .ok (.invokevirtual 57, 3) := by decide +kernel
theorem dX0_howManyDo_17 : decode cX0_howManyDo 17 = .ok (.iload_n 1, 1) := by decide +kernel
theorem dX0_howManyDo_18 : decode cX0_howManyDo 18 = .ok (.if_icmp .ne 6, 3) := by decide +kernel
theorem dX0_howManyDo_21 : decode cX0_howManyDo 21 = .ok (.iinc 2 1, 3) := by decide +kernel
theorem dX0_howManyDo_24 : decode cX0_howManyDo 24 = .ok (.iinc 3 1, 3) := by decide +kernel
theorem dX0_howManyDo_27 : decode cX0_howManyDo 27 = .ok (.goto (-23), 3) := by decide +kernel
theorem dX0_howManyDo_30 : decode cX0_howManyDo 30 = .ok (.iload_n 2, 1) := by decide +kernel
theorem dX0_howManyDo_31 : decode cX0_howManyDo 31 = .ok (.ireturn, 1) := by decide +kernel
theorem dX0_deedOf_0 : decode cX0_deedOf 0 = .ok (.aload_n 0, 1) := by decide +kernel
theorem dX0_deedOf_1 : decode cX0_deedOf 1 = .ok (.getfield 28, 3) := by decide +kernel
theorem dX0_deedOf_4 : decode cX0_deedOf 4 = .ok (.iload_n 1, 1) := by decide +kernel
theorem dX0_deedOf_5 : decode cX0_deedOf 5 = .ok (.iaload, 1) := by decide +kernel
theorem dX0_deedOf_6 : decode cX0_deedOf 6 = .ok (.tableswitch 102 1 5 #[34, 40, 46, 48, 83], 34) := by decide +kernel
theorem dX0_deedOf_40 : decode cX0_deedOf 40 = .ok (.aload_n 0, 1) := by decide +kernel
theorem dX0_deedOf_41 : decode cX0_deedOf 41 = .ok (.iload_n 1, 1) := by decide +kernel
theorem dX0_deedOf_42 : decode cX0_deedOf 42 = .ok (.invokevirtual 61, 3) := by decide +kernel
theorem dX0_deedOf_45 : decode cX0_deedOf 45 = .ok (.ireturn, 1) := by decide +kernel
theorem dX0_deedOf_46 : decode cX0_deedOf 46 = .ok (.aload_n 0, 1) := by decide +kernel
theorem dX0_deedOf_47 : decode cX0_deedOf 47 = .ok (.iload_n 1, 1) := by decide +kernel
theorem dX0_deedOf_48 : decode cX0_deedOf 48 = .ok (.invokevirtual 64, 3) := by decide +kernel
theorem dX0_deedOf_51 : decode cX0_deedOf 51 = .ok (.ireturn, 1) := by decide +kernel
theorem dX0_deedOf_52 : decode cX0_deedOf 52 = .ok (.iconst 0, 1) := by decide +kernel
theorem dX0_deedOf_53 : decode cX0_deedOf 53 = .ok (.ireturn, 1) := by decide +kernel
theorem dX0_deedOf_54 : decode cX0_deedOf 54 = .ok (.aload_n 0, 1) := by decide +kernel
theorem dX0_deedOf_55 : decode cX0_deedOf 55 = .ok (.getfield 21, 3) := by decide +kernel
theorem dX0_deedOf_58 : decode cX0_deedOf 58 = .ok (.aload_n 0, 1) := by decide +kernel
theorem dX0_deedOf_59 : decode cX0_deedOf 59 = .ok (.getfield 15, 3) := by decide +kernel
theorem dX0_deedOf_62 : decode cX0_deedOf 62 = .ok (.iaload, 1) := by decide +kernel
theorem dX0_deedOf_63 : decode cX0_deedOf 63 = .ok (.iconst 4, 1) := by decide +kernel
theorem dX0_deedOf_64 : decode cX0_deedOf 64 = .ok (.if_icmp .eq 15, 3) := by decide +kernel
theorem dX0_deedOf_67 : decode cX0_deedOf 67 = .ok (.aload_n 0, 1) := by decide +kernel
theorem dX0_deedOf_68 : decode cX0_deedOf 68 = .ok (.getfield 15, 3) := by decide +kernel
theorem dX0_deedOf_71 : decode cX0_deedOf 71 = .ok (.bipush 8, 2) := by decide +kernel
theorem dX0_deedOf_73 : decode cX0_deedOf 73 = .ok (.irem, 1) := by decide +kernel
theorem dX0_deedOf_74 : decode cX0_deedOf 74 = .ok (.bipush 7, 2) := by decide +kernel
theorem dX0_deedOf_76 : decode cX0_deedOf 76 = .ok (.if_icmp .ne 7, 3) := by decide +kernel
theorem dX0_deedOf_79 : decode cX0_deedOf 79 = .ok (.iconst 4, 1) := by decide +kernel
theorem dX0_deedOf_80 : decode cX0_deedOf 80 = .ok (.goto 8, 3) := by decide +kernel
theorem dX0_deedOf_83 : decode cX0_deedOf 83 = .ok (.aload_n 0, 1) := by decide +kernel
theorem dX0_deedOf_84 : decode cX0_deedOf 84 = .ok (.iload_n 1, 1) := by decide +kernel
theorem dX0_deedOf_85 : decode cX0_deedOf 85 = .ok (.invokevirtual 61, 3) := by decide +kernel
theorem dX0_deedOf_88 : decode cX0_deedOf 88 = .ok (.ireturn, 1) := by decide +kernel
theorem dX0_deedOf_89 : decode cX0_deedOf 89 = .ok (.aload_n 0, 1) := by decide +kernel
theorem dX0_deedOf_90 : decode cX0_deedOf 90 = .ok (.iload_n 1, 1) := by decide +kernel
theorem dX0_deedOf_91 : decode cX0_deedOf 91 = .ok (.iconst 1, 1) := by decide +kernel
theorem dX0_deedOf_92 : decode cX0_deedOf 92 = .ok (.invokevirtual 67, 3) := by decide +kernel
theorem dX0_deedOf_95 : decode cX0_deedOf 95 = .ok (.ifCond .eq 7, 3) := by decide +kernel
theorem dX0_deedOf_98 : decode cX0_deedOf 98 = .ok (.iconst 1, 1) := by decide +kernel
theorem dX0_deedOf_99 : decode cX0_deedOf 99 = .ok (.goto 8, 3) := by decide +kernel
theorem dX0_deedOf_102 : decode cX0_deedOf 102 = .ok (.aload_n 0, 1) := by decide +kernel
theorem dX0_deedOf_103 : decode cX0_deedOf 103 = .ok (.iload_n 1, 1) := by decide +kernel
theorem dX0_deedOf_104 : decode cX0_deedOf 104 = .ok (.invokevirtual 64, 3) := by decide +kernel
theorem dX0_deedOf_107 : decode cX0_deedOf 107 = .ok (.ireturn, 1) := by decide +kernel
theorem dX0_deedOf_108 : decode cX0_deedOf 108 = .ok (.aload_n 0, 1) := by decide +kernel
theorem dX0_deedOf_109 : decode cX0_deedOf 109 = .ok (.iload_n 1, 1) := by decide +kernel
theorem dX0_deedOf_110 : decode cX0_deedOf 110 = .ok (.invokevirtual 71, 3) := by decide +kernel
theorem dX0_deedOf_113 : decode cX0_deedOf 113 = .ok (.ireturn, 1) := by decide +kernel
theorem dX0_sitterDeed_0 : decode cX0_sitterDeed 0 = .ok (.aload_n 0, 1) := by decide +kernel
theorem dX0_sitterDeed_1 : decode cX0_sitterDeed 1 = .ok (.getfield 31, 3) := by decide +kernel
theorem dX0_sitterDeed_4 : decode cX0_sitterDeed 4 = .ok (.iload_n 1, 1) := by decide +kernel
theorem dX0_sitterDeed_5 : decode cX0_sitterDeed 5 = .ok (.iaload, 1) := by decide +kernel
theorem dX0_sitterDeed_6 : decode cX0_sitterDeed 6 = .ok (.aload_n 0, 1) := by decide +kernel
theorem dX0_sitterDeed_7 : decode cX0_sitterDeed 7 = .ok (.getfield 25, 3) := by decide +kernel
theorem dX0_sitterDeed_10 : decode cX0_sitterDeed 10 = .ok (.aload_n 0, 1) := by decide +kernel
theorem dX0_sitterDeed_11 : decode cX0_sitterDeed 11 = .ok (.getfield 15, 3) := by decide +kernel
theorem dX0_sitterDeed_14 : decode cX0_sitterDeed 14 = .ok (.iaload, 1) := by decide +kernel
theorem dX0_sitterDeed_15 : decode cX0_sitterDeed 15 = .ok (.if_icmp .lt 15, 3) := by decide +kernel
theorem dX0_sitterDeed_18 : decode cX0_sitterDeed 18 = .ok (.aload_n 0, 1) := by decide +kernel
theorem dX0_sitterDeed_19 : decode cX0_sitterDeed 19 = .ok (.getfield 21, 3) := by decide +kernel
theorem dX0_sitterDeed_22 : decode cX0_sitterDeed 22 = .ok (.aload_n 0, 1) := by decide +kernel
theorem dX0_sitterDeed_23 : decode cX0_sitterDeed 23 = .ok (.getfield 15, 3) := by decide +kernel
theorem dX0_sitterDeed_26 : decode cX0_sitterDeed 26 = .ok (.iaload, 1) := by decide +kernel
theorem dX0_sitterDeed_27 : decode cX0_sitterDeed 27 = .ok (.goto 4, 3) := by decide +kernel
theorem dX0_sitterDeed_30 : decode cX0_sitterDeed 30 = .ok (.iconst 0, 1) := by decide +kernel
theorem dX0_sitterDeed_31 : decode cX0_sitterDeed 31 = .ok (.ireturn, 1) := by decide +kernel
theorem dX0_cougherDeed_0 : decode cX0_cougherDeed 0 = .ok (.aload_n 0, 1) := by decide +kernel
theorem dX0_cougherDeed_1 : decode cX0_cougherDeed 1 = .ok (.iload_n 1, 1) := by decide +kernel
theorem dX0_cougherDeed_2 : decode cX0_cougherDeed 2 = .ok (.iconst 3, 1) := by decide +kernel
theorem dX0_cougherDeed_3 : decode cX0_cougherDeed 3 = .ok (.invokevirtual 67, 3) := by decide +kernel
theorem dX0_cougherDeed_6 : decode cX0_cougherDeed 6 = .ok (.ifCond .eq 7, 3) := by decide +kernel
theorem dX0_cougherDeed_9 : decode cX0_cougherDeed 9 = .ok (.iconst 3, 1) := by decide +kernel
theorem dX0_cougherDeed_10 : decode cX0_cougherDeed 10 = .ok (.goto 8, 3) := by decide +kernel
theorem dX0_cougherDeed_13 : decode cX0_cougherDeed 13 = .ok (.aload_n 0, 1) := by decide +kernel
theorem dX0_cougherDeed_14 : decode cX0_cougherDeed 14 = .ok (.iload_n 1, 1) := by decide +kernel
theorem dX0_cougherDeed_15 : decode cX0_cougherDeed 15 = .ok (.invokevirtual 71, 3) := by decide +kernel
theorem dX0_cougherDeed_18 : decode cX0_cougherDeed 18 = .ok (.ireturn, 1) := by decide +kernel
theorem dX0_weeperDeed_0 : decode cX0_weeperDeed 0 = .ok (.aload_n 0, 1) := by decide +kernel
theorem dX0_weeperDeed_1 : decode cX0_weeperDeed 1 = .ok (.getfield 31, 3) := by decide +kernel
theorem dX0_weeperDeed_4 : decode cX0_weeperDeed 4 = .ok (.iload_n 1, 1) := by decide +kernel
theorem dX0_weeperDeed_5 : decode cX0_weeperDeed 5 = .ok (.iaload, 1) := by decide +kernel
theorem dX0_weeperDeed_6 : decode cX0_weeperDeed 6 = .ok (.bipush 40, 2) := by decide +kernel
theorem dX0_weeperDeed_8 : decode cX0_weeperDeed 8 = .ok (.if_icmp .lt 20, 3) := by decide +kernel
theorem dX0_weeperDeed_11 : decode cX0_weeperDeed 11 = .ok (.aload_n 0, 1) := by decide +kernel
theorem dX0_weeperDeed_12 : decode cX0_weeperDeed 12 = .ok (.getfield 21, 3) := by decide +kernel
theorem dX0_weeperDeed_15 : decode cX0_weeperDeed 15 = .ok (.aload_n 0, 1) := by decide +kernel
theorem dX0_weeperDeed_16 : decode cX0_weeperDeed 16 = .ok (.getfield 15, 3) := by decide +kernel
theorem dX0_weeperDeed_19 : decode cX0_weeperDeed 19 = .ok (.iaload, 1) := by decide +kernel
theorem dX0_weeperDeed_20 : decode cX0_weeperDeed 20 = .ok (.iconst 2, 1) := by decide +kernel
theorem dX0_weeperDeed_21 : decode cX0_weeperDeed 21 = .ok (.if_icmp .eq 7, 3) := by decide +kernel
theorem dX0_weeperDeed_24 : decode cX0_weeperDeed 24 = .ok (.iconst 1, 1) := by decide +kernel
theorem dX0_weeperDeed_25 : decode cX0_weeperDeed 25 = .ok (.goto 8, 3) := by decide +kernel
theorem dX0_weeperDeed_28 : decode cX0_weeperDeed 28 = .ok (.aload_n 0, 1) := by decide +kernel
theorem dX0_weeperDeed_29 : decode cX0_weeperDeed 29 = .ok (.iload_n 1, 1) := by decide +kernel
theorem dX0_weeperDeed_30 : decode cX0_weeperDeed 30 = .ok (.invokevirtual 71, 3) := by decide +kernel
theorem dX0_weeperDeed_33 : decode cX0_weeperDeed 33 = .ok (.ireturn, 1) := by decide +kernel
theorem dX0_neighbourDid_0 : decode cX0_neighbourDid 0 = .ok (.iload_n 1, 1) := by decide +kernel
theorem dX0_neighbourDid_1 : decode cX0_neighbourDid 1 = .ok (.ifCond .le 15, 3) := by decide +kernel
theorem dX0_neighbourDid_4 : decode cX0_neighbourDid 4 = .ok (.aload_n 0, 1) := by decide +kernel
theorem dX0_neighbourDid_5 : decode cX0_neighbourDid 5 = .ok (.getfield 37, 3) := by decide +kernel
theorem dX0_neighbourDid_8 : decode cX0_neighbourDid 8 = .ok (.iload_n 1, 1) := by decide +kernel
theorem dX0_neighbourDid_9 : decode cX0_neighbourDid 9 = .ok (.iconst 1, 1) := by decide +kernel
theorem dX0_neighbourDid_10 : decode cX0_neighbourDid 10 = .ok (.isub, 1) := by decide +kernel
theorem dX0_neighbourDid_11 : decode cX0_neighbourDid 11 = .ok (.iaload, 1) := by decide +kernel
theorem dX0_neighbourDid_12 : decode cX0_neighbourDid 12 = .ok (.iload_n 2, 1) := by decide +kernel
theorem dX0_neighbourDid_13 : decode cX0_neighbourDid 13 = .ok (.if_icmp .eq 25, 3) := by decide +kernel
theorem dX0_neighbourDid_16 : decode cX0_neighbourDid 16 = .ok (.iload_n 1, 1) := by decide +kernel
theorem dX0_neighbourDid_17 : decode cX0_neighbourDid 17 = .ok (.iconst 1, 1) := by decide +kernel
theorem dX0_neighbourDid_18 : decode cX0_neighbourDid 18 = .ok (.iadd, 1) := by decide +kernel
theorem dX0_neighbourDid_19 : decode cX0_neighbourDid 19 = .ok (.aload_n 0, 1) := by decide +kernel
theorem dX0_neighbourDid_20 : decode cX0_neighbourDid 20 = .ok (.getfield 18, 3) := by decide +kernel
theorem dX0_neighbourDid_23 : decode cX0_neighbourDid 23 = .ok (.if_icmp .ge 19, 3) := by decide +kernel
theorem dX0_neighbourDid_26 : decode cX0_neighbourDid 26 = .ok (.aload_n 0, 1) := by decide +kernel
theorem dX0_neighbourDid_27 : decode cX0_neighbourDid 27 = .ok (.getfield 37, 3) := by decide +kernel
theorem dX0_neighbourDid_30 : decode cX0_neighbourDid 30 = .ok (.iload_n 1, 1) := by decide +kernel
theorem dX0_neighbourDid_31 : decode cX0_neighbourDid 31 = .ok (.iconst 1, 1) := by decide +kernel
theorem dX0_neighbourDid_32 : decode cX0_neighbourDid 32 = .ok (.iadd, 1) := by decide +kernel
theorem dX0_neighbourDid_33 : decode cX0_neighbourDid 33 = .ok (.iaload, 1) := by decide +kernel
theorem dX0_neighbourDid_34 : decode cX0_neighbourDid 34 = .ok (.iload_n 2, 1) := by decide +kernel
theorem dX0_neighbourDid_35 : decode cX0_neighbourDid 35 = .ok (.if_icmp .ne 7, 3) := by decide +kernel
theorem dX0_neighbourDid_38 : decode cX0_neighbourDid 38 = .ok (.iconst 1, 1) := by decide +kernel
theorem dX0_neighbourDid_39 : decode cX0_neighbourDid 39 = .ok (.goto 4, 3) := by decide +kernel
theorem dX0_neighbourDid_42 : decode cX0_neighbourDid 42 = .ok (.iconst 0, 1) := by decide +kernel
theorem dX0_neighbourDid_43 : decode cX0_neighbourDid 43 = .ok (.ireturn, 1) := by decide +kernel
theorem dX0_allNotesOn_0 : decode cX0_allNotesOn 0 = .ok (.aload_n 0, 1) := by decide +kernel
theorem dX0_allNotesOn_1 : decode cX0_allNotesOn 1 = .ok (.iload_n 1, 1) := by decide +kernel
theorem dX0_allNotesOn_2 : decode cX0_allNotesOn 2 = .ok (.invokevirtual 74, 3) := by decide +kernel
theorem dX0_allNotesOn_5 : decode cX0_allNotesOn 5 = .ok (.aload_n 0, 1) := by decide +kernel
theorem dX0_allNotesOn_6 : decode cX0_allNotesOn 6 = .ok (.invokevirtual 78, 3) := by decide +kernel
theorem dX0_allNotesOn_9 : decode cX0_allNotesOn 9 = .ok (.ireturn, 1) := by decide +kernel
theorem dX0_goOn_0 : decode cX0_goOn 0 = .ok (.iconst 0, 1) := by decide +kernel
theorem dX0_goOn_1 : decode cX0_goOn 1 = .ok (.istore_n 2, 1) := by decide +kernel
theorem dX0_goOn_2 : decode cX0_goOn 2 = .ok (.iload_n 2, 1) := by decide +kernel
theorem dX0_goOn_3 : decode cX0_goOn 3 = .ok (.iload_n 1, 1) := by decide +kernel
theorem dX0_goOn_4 : decode cX0_goOn 4 = .ok (.if_icmp .ge 13, 3) := by decide +kernel
theorem dX0_goOn_7 : decode cX0_goOn 7 = .ok (.aload_n 0, 1) := by decide +kernel
theorem dX0_goOn_8 : decode cX0_goOn 8 = .ok (.invokevirtual 82, 3) := by decide +kernel
theorem dX0_goOn_11 : decode cX0_goOn 11 = .ok (.iinc 2 1, 3) := by decide +kernel
theorem dX0_goOn_14 : decode cX0_goOn 14 = .ok (.goto (-12), 3) := by decide +kernel
theorem dX0_goOn_17 : decode cX0_goOn 17 = .ok (.return_, 1) := by decide +kernel
theorem dX0_go_0 : decode cX0_go 0 = .ok (.aload_n 0, 1) := by decide +kernel
theorem dX0_go_1 : decode cX0_go 1 = .ok (.getfield 21, 3) := by decide +kernel
theorem dX0_go_4 : decode cX0_go 4 = .ok (.aload_n 0, 1) := by decide +kernel
theorem dX0_go_5 : decode cX0_go 5 = .ok (.getfield 15, 3) := by decide +kernel
theorem dX0_go_8 : decode cX0_go 8 = .ok (.iaload, 1) := by decide +kernel
theorem dX0_go_9 : decode cX0_go 9 = .ok (.istore_n 1, 1) := by decide +kernel
theorem dX0_go_10 : decode cX0_go 10 = .ok (.iconst 0, 1) := by decide +kernel
theorem dX0_go_11 : decode cX0_go 11 = .ok (.istore_n 2, 1) := by decide +kernel
theorem dX0_go_12 : decode cX0_go 12 = .ok (.iload_n 2, 1) := by decide +kernel
theorem dX0_go_13 : decode cX0_go 13 = .ok (.aload_n 0, 1) := by decide +kernel
theorem dX0_go_14 : decode cX0_go 14 = .ok (.getfield 18, 3) := by decide +kernel
theorem dX0_go_17 : decode cX0_go 17 = .ok (.if_icmp .ge 20, 3) := by decide +kernel
theorem dX0_go_20 : decode cX0_go 20 = .ok (.aload_n 0, 1) := by decide +kernel
theorem dX0_go_21 : decode cX0_go 21 = .ok (.getfield 40, 3) := by decide +kernel
theorem dX0_go_24 : decode cX0_go 24 = .ok (.iload_n 2, 1) := by decide +kernel
theorem dX0_go_25 : decode cX0_go 25 = .ok (.aload_n 0, 1) := by decide +kernel
theorem dX0_go_26 : decode cX0_go 26 = .ok (.iload_n 2, 1) := by decide +kernel
theorem dX0_go_27 : decode cX0_go 27 = .ok (.invokevirtual 57, 3) := by decide +kernel
theorem dX0_go_30 : decode cX0_go 30 = .ok (.iastore, 1) := by decide +kernel
theorem dX0_go_31 : decode cX0_go 31 = .ok (.iinc 2 1, 3) := by decide +kernel
theorem dX0_go_34 : decode cX0_go 34 = .ok (.goto (-22), 3) := by decide +kernel
theorem dX0_go_37 : decode cX0_go 37 = .ok (.iconst 0, 1) := by decide +kernel
theorem dX0_go_38 : decode cX0_go 38 = .ok (.istore_n 2, 1) := by decide +kernel
theorem dX0_go_39 : decode cX0_go 39 = .ok (.iload_n 2, 1) := by decide +kernel
theorem dX0_go_40 : decode cX0_go 40 = .ok (.aload_n 0, 1) := by decide +kernel
theorem dX0_go_41 : decode cX0_go 41 = .ok (.getfield 18, 3) := by decide +kernel
theorem dX0_go_44 : decode cX0_go 44 = .ok (.if_icmp .ge 59, 3) := by decide +kernel
theorem dX0_go_47 : decode cX0_go 47 = .ok (.aload_n 0, 1) := by decide +kernel
theorem dX0_go_48 : decode cX0_go 48 = .ok (.getfield 34, 3) := by decide +kernel
theorem dX0_go_51 : decode cX0_go 51 = .ok (.iload_n 2, 1) := by decide +kernel
theorem dX0_go_52 : decode cX0_go 52 = .ok (.aload_n 0, 1) := by decide +kernel
theorem dX0_go_53 : decode cX0_go 53 = .ok (.getfield 34, 3) := by decide +kernel
theorem dX0_go_56 : decode cX0_go 56 = .ok (.iload_n 2, 1) := by decide +kernel
theorem dX0_go_57 : decode cX0_go 57 = .ok (.iaload, 1) := by decide +kernel
theorem dX0_go_58 : decode cX0_go 58 = .ok (.aload_n 0, 1) := by decide +kernel
theorem dX0_go_59 : decode cX0_go 59 = .ok (.getfield 28, 3) := by decide +kernel
theorem dX0_go_62 : decode cX0_go 62 = .ok (.iload_n 2, 1) := by decide +kernel
theorem dX0_go_63 : decode cX0_go 63 = .ok (.iaload, 1) := by decide +kernel
theorem dX0_go_64 : decode cX0_go 64 = .ok (.aload_n 0, 1) := by decide +kernel
theorem dX0_go_65 : decode cX0_go 65 = .ok (.getfield 40, 3) := by decide +kernel
theorem dX0_go_68 : decode cX0_go 68 = .ok (.iload_n 2, 1) := by decide +kernel
theorem dX0_go_69 : decode cX0_go 69 = .ok (.iaload, 1) := by decide +kernel
theorem dX0_go_70 : decode cX0_go 70 = .ok (.iload_n 1, 1) := by decide +kernel
theorem dX0_go_71 : decode cX0_go 71 = .ok (.invokestatic 85, 3) := by decide +kernel
theorem dX0_go_74 : decode cX0_go 74 = .ok (.iadd, 1) := by decide +kernel
theorem dX0_go_75 : decode cX0_go 75 = .ok (.sipush (-9999), 3) := by decide +kernel
theorem dX0_go_78 : decode cX0_go 78 = .ok (.sipush 9999, 3) := by decide +kernel
theorem dX0_go_81 : decode cX0_go 81 = .ok (.invokestatic 89, 3) := by decide +kernel
theorem dX0_go_84 : decode cX0_go 84 = .ok (.iastore, 1) := by decide +kernel
theorem dX0_go_85 : decode cX0_go 85 = .ok (.aload_n 0, 1) := by decide +kernel
theorem dX0_go_86 : decode cX0_go 86 = .ok (.getfield 37, 3) := by decide +kernel
theorem dX0_go_89 : decode cX0_go 89 = .ok (.iload_n 2, 1) := by decide +kernel
theorem dX0_go_90 : decode cX0_go 90 = .ok (.aload_n 0, 1) := by decide +kernel
theorem dX0_go_91 : decode cX0_go 91 = .ok (.getfield 40, 3) := by decide +kernel
theorem dX0_go_94 : decode cX0_go 94 = .ok (.iload_n 2, 1) := by decide +kernel
theorem dX0_go_95 : decode cX0_go 95 = .ok (.iaload, 1) := by decide +kernel
theorem dX0_go_96 : decode cX0_go 96 = .ok (.iastore, 1) := by decide +kernel
theorem dX0_go_97 : decode cX0_go 97 = .ok (.iinc 2 1, 3) := by decide +kernel
theorem dX0_go_100 : decode cX0_go 100 = .ok (.goto (-61), 3) := by decide +kernel
theorem dX0_go_103 : decode cX0_go 103 = .ok (.aload_n 0, 1) := by decide +kernel
theorem dX0_go_104 : decode cX0_go 104 = .ok (.dup, 1) := by decide +kernel
theorem dX0_go_105 : decode cX0_go 105 = .ok (.getfield 15, 3) := by decide +kernel
theorem dX0_go_108 : decode cX0_go 108 = .ok (.iconst 1, 1) := by decide +kernel
theorem dX0_go_109 : decode cX0_go 109 = .ok (.iadd, 1) := by decide +kernel
theorem dX0_go_110 : decode cX0_go 110 = .ok (.putfield 15, 3) := by decide +kernel
theorem dX0_go_113 : decode cX0_go 113 = .ok (.aload_n 0, 1) := by decide +kernel
theorem dX0_go_114 : decode cX0_go 114 = .ok (.getfield 15, 3) := by decide +kernel
theorem dX0_go_117 : decode cX0_go 117 = .ok (.bipush 16, 2) := by decide +kernel
theorem dX0_go_119 : decode cX0_go 119 = .ok (.if_icmp .lt 7, 3) := by decide +kernel
theorem dX0_go_122 : decode cX0_go 122 = .ok (.aload_n 0, 1) := by decide +kernel
theorem dX0_go_123 : decode cX0_go 123 = .ok (.invokevirtual 92, 3) := by decide +kernel
theorem dX0_go_126 : decode cX0_go 126 = .ok (.return_, 1) := by decide +kernel
theorem dX0_endNight_0 : decode cX0_endNight 0 = .ok (.aload_n 0, 1) := by decide +kernel
theorem dX0_endNight_1 : decode cX0_endNight 1 = .ok (.iconst 0, 1) := by decide +kernel
theorem dX0_endNight_2 : decode cX0_endNight 2 = .ok (.putfield 15, 3) := by decide +kernel
theorem dX0_endNight_5 : decode cX0_endNight 5 = .ok (.aload_n 0, 1) := by decide +kernel
theorem dX0_endNight_6 : decode cX0_endNight 6 = .ok (.dup, 1) := by decide +kernel
theorem dX0_endNight_7 : decode cX0_endNight 7 = .ok (.getfield 9, 3) := by decide +kernel
theorem dX0_endNight_10 : decode cX0_endNight 10 = .ok (.iconst 1, 1) := by decide +kernel
theorem dX0_endNight_11 : decode cX0_endNight 11 = .ok (.iadd, 1) := by decide +kernel
theorem dX0_endNight_12 : decode cX0_endNight 12 = .ok (.putfield 9, 3) := by decide +kernel
theorem dX0_endNight_15 : decode cX0_endNight 15 = .ok (.iconst 0, 1) := by decide +kernel
theorem dX0_endNight_16 : decode cX0_endNight 16 = .ok (.istore_n 1, 1) := by decide +kernel
theorem dX0_endNight_17 : decode cX0_endNight 17 = .ok (.iload_n 1, 1) := by decide +kernel
theorem dX0_endNight_18 : decode cX0_endNight 18 = .ok (.aload_n 0, 1) := by decide +kernel
theorem dX0_endNight_19 : decode cX0_endNight 19 = .ok (.getfield 18, 3) := by decide +kernel
theorem dX0_endNight_22 : decode cX0_endNight 22 = .ok (.if_icmp .ge 44, 3) := by decide +kernel
theorem dX0_endNight_25 : decode cX0_endNight 25 = .ok (.aload_n 0, 1) := by decide +kernel
theorem dX0_endNight_26 : decode cX0_endNight 26 = .ok (.getfield 31, 3) := by decide +kernel
theorem dX0_endNight_29 : decode cX0_endNight 29 = .ok (.iload_n 1, 1) := by decide +kernel
theorem dX0_endNight_30 : decode cX0_endNight 30 = .ok (.aload_n 0, 1) := by decide +kernel
theorem dX0_endNight_31 : decode cX0_endNight 31 = .ok (.getfield 31, 3) := by decide +kernel
theorem dX0_endNight_34 : decode cX0_endNight 34 = .ok (.iload_n 1, 1) := by decide +kernel
theorem dX0_endNight_35 : decode cX0_endNight 35 = .ok (.iaload, 1) := by decide +kernel
theorem dX0_endNight_36 : decode cX0_endNight 36 = .ok (.aload_n 0, 1) := by decide +kernel
theorem dX0_endNight_37 : decode cX0_endNight 37 = .ok (.getfield 28, 3) := by decide +kernel
theorem dX0_endNight_40 : decode cX0_endNight 40 = .ok (.iload_n 1, 1) := by decide +kernel
theorem dX0_endNight_41 : decode cX0_endNight 41 = .ok (.iaload, 1) := by decide +kernel
theorem dX0_endNight_42 : decode cX0_endNight 42 = .ok (.invokestatic 95, 3) := by decide +kernel
theorem dX0_endNight_45 : decode cX0_endNight 45 = .ok (.isub, 1) := by decide +kernel
theorem dX0_endNight_46 : decode cX0_endNight 46 = .ok (.iconst 0, 1) := by decide +kernel
theorem dX0_endNight_47 : decode cX0_endNight 47 = .ok (.bipush 99, 2) := by decide +kernel
theorem dX0_endNight_49 : decode cX0_endNight 49 = .ok (.invokestatic 89, 3) := by decide +kernel
theorem dX0_endNight_52 : decode cX0_endNight 52 = .ok (.iastore, 1) := by decide +kernel
theorem dX0_endNight_53 : decode cX0_endNight 53 = .ok (.aload_n 0, 1) := by decide +kernel
theorem dX0_endNight_54 : decode cX0_endNight 54 = .ok (.getfield 37, 3) := by decide +kernel
theorem dX0_endNight_57 : decode cX0_endNight 57 = .ok (.iload_n 1, 1) := by decide +kernel
theorem dX0_endNight_58 : decode cX0_endNight 58 = .ok (.iconst 0, 1) := by decide +kernel
theorem dX0_endNight_59 : decode cX0_endNight 59 = .ok (.iastore, 1) := by decide +kernel
theorem dX0_endNight_60 : decode cX0_endNight 60 = .ok (.iinc 1 1, 3) := by decide +kernel
theorem dX0_endNight_63 : decode cX0_endNight 63 = .ok (.goto (-46), 3) := by decide +kernel
theorem dX0_endNight_66 : decode cX0_endNight 66 = .ok (.return_, 1) := by decide +kernel
theorem dX1_init_0 : decode cX1_init 0 = .ok (.aload_n 0, 1) := by decide +kernel
theorem dX1_init_1 : decode cX1_init 1 = .ok (.invokespecial 3, 3) := by decide +kernel
theorem dX1_init_4 : decode cX1_init 4 = .ok (.aload_n 0, 1) := by decide +kernel
theorem dX1_init_5 : decode cX1_init 5 = .ok (.bipush 40, 2) := by decide +kernel
theorem dX1_init_7 : decode cX1_init 7 = .ok (.newarray .long, 2) := by decide +kernel
theorem dX1_init_9 : decode cX1_init 9 = .ok (.putfield 9, 3) := by decide +kernel
theorem dX1_init_12 : decode cX1_init 12 = .ok (.aload_n 0, 1) := by decide +kernel
theorem dX1_init_13 : decode cX1_init 13 = .ok (.iconst 0, 1) := by decide +kernel
theorem dX1_init_14 : decode cX1_init 14 = .ok (.putfield 15, 3) := by decide +kernel
theorem dX1_init_17 : decode cX1_init 17 = .ok (.aload_n 0, 1) := by decide +kernel
theorem dX1_init_18 : decode cX1_init 18 = .ok (.iconst 0, 1) := by decide +kernel
theorem dX1_init_19 : decode cX1_init 19 = .ok (.putfield 19, 3) := by decide +kernel
theorem dX1_init_22 : decode cX1_init 22 = .ok (.return_, 1) := by decide +kernel
theorem dX1_isMissing_0 : decode cX1_isMissing 0 = .ok (.aload_n 0, 1) := by decide +kernel
theorem dX1_isMissing_1 : decode cX1_isMissing 1 = .ok (.getfield 15, 3) := by decide +kernel
theorem dX1_isMissing_4 : decode cX1_isMissing 4 = .ok (.ifCond .ne 7, 3) := by decide +kernel
theorem dX1_isMissing_7 : decode cX1_isMissing 7 = .ok (.iconst 1, 1) := by decide +kernel
theorem dX1_isMissing_8 : decode cX1_isMissing 8 = .ok (.goto 4, 3) := by decide +kernel
theorem dX1_isMissing_11 : decode cX1_isMissing 11 = .ok (.iconst 0, 1) := by decide +kernel
theorem dX1_isMissing_12 : decode cX1_isMissing 12 = .ok (.ireturn, 1) := by decide +kernel
theorem dX1_layOut_0 : decode cX1_layOut 0 = .ok (.aload_n 0, 1) := by decide +kernel
theorem dX1_layOut_1 : decode cX1_layOut 1 = .ok (.iload_n 1, 1) := by decide +kernel
theorem dX1_layOut_2 : decode cX1_layOut 2 = .ok (.putfield 15, 3) := by decide +kernel
theorem dX1_layOut_5 : decode cX1_layOut 5 = .ok (.aload_n 0, 1) := by decide +kernel
theorem dX1_layOut_6 : decode cX1_layOut 6 = .ok (.iload_n 1, 1) := by decide +kernel
theorem dX1_layOut_7 : decode cX1_layOut 7 = .ok (.ifCond .ne 7, 3) := by decide +kernel
theorem dX1_layOut_10 : decode cX1_layOut 10 = .ok (.iconst 0, 1) := by decide +kernel
theorem dX1_layOut_11 : decode cX1_layOut 11 = .ok (.goto 4, 3) := by decide +kernel
theorem dX1_layOut_14 : decode cX1_layOut 14 = .ok (.iload_n 2, 1) := by decide +kernel
theorem dX1_layOut_15 : decode cX1_layOut 15 = .ok (.putfield 19, 3) := by decide +kernel
theorem dX1_layOut_18 : decode cX1_layOut 18 = .ok (.iconst 0, 1) := by decide +kernel
theorem dX1_layOut_19 : decode cX1_layOut 19 = .ok (.istore_n 3, 1) := by decide +kernel
theorem dX1_layOut_20 : decode cX1_layOut 20 = .ok (.iload_n 3, 1) := by decide +kernel
theorem dX1_layOut_21 : decode cX1_layOut 21 = .ok (.bipush 40, 2) := by decide +kernel
theorem dX1_layOut_23 : decode cX1_layOut 23 = .ok (.if_icmp .ge 16, 3) := by decide +kernel
theorem dX1_layOut_26 : decode cX1_layOut 26 = .ok (.aload_n 0, 1) := by decide +kernel
theorem dX1_layOut_27 : decode cX1_layOut 27 = .ok (.getfield 9, 3) := by decide +kernel
theorem dX1_layOut_30 : decode cX1_layOut 30 = .ok (.iload_n 3, 1) := by decide +kernel
theorem dX1_layOut_31 : decode cX1_layOut 31 = .ok (.lconst 0, 1) := by decide +kernel
theorem dX1_layOut_32 : decode cX1_layOut 32 = .ok (.lastore, 1) := by decide +kernel
theorem dX1_layOut_33 : decode cX1_layOut 33 = .ok (.iinc 3 1, 3) := by decide +kernel
theorem dX1_layOut_36 : decode cX1_layOut 36 = .ok (.goto (-16), 3) := by decide +kernel
theorem dX1_layOut_39 : decode cX1_layOut 39 = .ok (.return_, 1) := by decide +kernel
theorem dX1_put_0 : decode cX1_put 0 = .ok (.aload_n 0, 1) := by decide +kernel
theorem dX1_put_1 : decode cX1_put 1 = .ok (.getfield 9, 3) := by decide +kernel
theorem dX1_put_4 : decode cX1_put 4 = .ok (.iload_n 1, 1) := by decide +kernel
theorem dX1_put_5 : decode cX1_put 5 = .ok (.aload_n 0, 1) := by decide +kernel
theorem dX1_put_6 : decode cX1_put 6 = .ok (.getfield 15, 3) := by decide +kernel
theorem dX1_put_9 : decode cX1_put 9 = .ok (.bipush 8, 2) := by decide +kernel
theorem dX1_put_11 : decode cX1_put 11 = .ok (.if_icmp .ne 10, 3) := by decide +kernel
theorem dX1_put_14 : decode cX1_put 14 = .ok (.lload_n 2, 1) := by decide +kernel
theorem dX1_put_15 : decode cX1_put 15 = .ok (.l2i, 1) := by decide +kernel
theorem dX1_put_16 : decode cX1_put 16 = .ok (.i2b, 1) := by decide +kernel
theorem dX1_put_17 : decode cX1_put 17 = .ok (.i2l, 1) := by decide +kernel
theorem dX1_put_18 : decode cX1_put 18 = .ok (.goto 20, 3) := by decide +kernel
theorem dX1_put_21 : decode cX1_put 21 = .ok (.aload_n 0, 1) := by decide +kernel
theorem dX1_put_22 : decode cX1_put 22 = .ok (.getfield 15, 3) := by decide +kernel
theorem dX1_put_25 : decode cX1_put 25 = .ok (.bipush 16, 2) := by decide +kernel
theorem dX1_put_27 : decode cX1_put 27 = .ok (.if_icmp .ne 10, 3) := by decide +kernel
theorem dX1_put_30 : decode cX1_put 30 = .ok (.lload_n 2, 1) := by decide +kernel
theorem dX1_put_31 : decode cX1_put 31 = .ok (.l2i, 1) := by decide +kernel
theorem dX1_put_32 : decode cX1_put 32 = .ok (.i2s, 1) := by decide +kernel
theorem dX1_put_33 : decode cX1_put 33 = .ok (.i2l, 1) := by decide +kernel
theorem dX1_put_34 : decode cX1_put 34 = .ok (.goto 4, 3) := by decide +kernel
theorem dX1_put_37 : decode cX1_put 37 = .ok (.lload_n 2, 1) := by decide +kernel
theorem dX1_put_38 : decode cX1_put 38 = .ok (.lastore, 1) := by decide +kernel
theorem dX1_put_39 : decode cX1_put 39 = .ok (.return_, 1) := by decide +kernel
theorem dX1_has_0 : decode cX1_has 0 = .ok (.iload_n 1, 1) := by decide +kernel
theorem dX1_has_1 : decode cX1_has 1 = .ok (.ifCond .lt 21, 3) := by decide +kernel
theorem dX1_has_4 : decode cX1_has 4 = .ok (.iload_n 2, 1) := by decide +kernel
theorem dX1_has_5 : decode cX1_has 5 = .ok (.ifCond .lt 17, 3) := by decide +kernel
theorem dX1_has_8 : decode cX1_has 8 = .ok (.iload_n 2, 1) := by decide +kernel
theorem dX1_has_9 : decode cX1_has 9 = .ok (.aload_n 0, 1) := by decide +kernel
theorem dX1_has_10 : decode cX1_has 10 = .ok (.getfield 19, 3) := by decide +kernel
theorem dX1_has_13 : decode cX1_has 13 = .ok (.iload_n 1, 1) := by decide +kernel
theorem dX1_has_14 : decode cX1_has 14 = .ok (.isub, 1) := by decide +kernel
theorem dX1_has_15 : decode cX1_has 15 = .ok (.if_icmp .gt 7, 3) := by decide +kernel
theorem dX1_has_18 : decode cX1_has 18 = .ok (.iconst 1, 1) := by decide +kernel
theorem dX1_has_19 : decode cX1_has 19 = .ok (.goto 4, 3) := by decide +kernel
theorem dX1_has_22 : decode cX1_has 22 = .ok (.iconst 0, 1) := by decide +kernel
theorem dX1_has_23 : decode cX1_has 23 = .ok (.ireturn, 1) := by decide +kernel
theorem dX2_init_0 : decode cX2_init 0 = .ok (.aload_n 0, 1) := by decide +kernel
theorem dX2_init_1 : decode cX2_init 1 = .ok (.invokespecial 3, 3) := by decide +kernel
theorem dX2_init_4 : decode cX2_init 4 = .ok (.aload_n 0, 1) := by decide +kernel
theorem dX2_init_5 : decode cX2_init 5 = .ok (.bipush 120, 2) := by decide +kernel
theorem dX2_init_7 : decode cX2_init 7 = .ok (.newarray .byte, 2) := by decide +kernel
theorem dX2_init_9 : decode cX2_init 9 = .ok (.putfield 9, 3) := by decide +kernel
theorem dX2_init_12 : decode cX2_init 12 = .ok (.aload_n 0, 1) := by decide +kernel
theorem dX2_init_13 : decode cX2_init 13 = .ok (.iconst 0, 1) := by decide +kernel
theorem dX2_init_14 : decode cX2_init 14 = .ok (.putfield 15, 3) := by decide +kernel
theorem dX2_init_17 : decode cX2_init 17 = .ok (.aload_n 0, 1) := by decide +kernel
theorem dX2_init_18 : decode cX2_init 18 = .ok (.iconst 0, 1) := by decide +kernel
theorem dX2_init_19 : decode cX2_init 19 = .ok (.putfield 19, 3) := by decide +kernel
theorem dX2_init_22 : decode cX2_init 22 = .ok (.aload_n 0, 1) := by decide +kernel
theorem dX2_init_23 : decode cX2_init 23 = .ok (.iconst 0, 1) := by decide +kernel
theorem dX2_init_24 : decode cX2_init 24 = .ok (.putfield 22, 3) := by decide +kernel
theorem dX2_init_27 : decode cX2_init 27 = .ok (.aload_n 0, 1) := by decide +kernel
theorem dX2_init_28 : decode cX2_init 28 = .ok (.iconst 0, 1) := by decide +kernel
theorem dX2_init_29 : decode cX2_init 29 = .ok (.putfield 25, 3) := by decide +kernel
theorem dX2_init_32 : decode cX2_init 32 = .ok (.aload_n 0, 1) := by decide +kernel
theorem dX2_init_33 : decode cX2_init 33 = .ok (.iconst 0, 1) := by decide +kernel
theorem dX2_init_34 : decode cX2_init 34 = .ok (.putfield 28, 3) := by decide +kernel
theorem dX2_init_37 : decode cX2_init 37 = .ok (.return_, 1) := by decide +kernel
theorem dX2_add_0 : decode cX2_add 0 = .ok (.aload_n 0, 1) := by decide +kernel
theorem dX2_add_1 : decode cX2_add 1 = .ok (.getfield 15, 3) := by decide +kernel
theorem dX2_add_4 : decode cX2_add 4 = .ok (.bipush 120, 2) := by decide +kernel
theorem dX2_add_6 : decode cX2_add 6 = .ok (.if_icmp .ge 23, 3) := by decide +kernel
theorem dX2_add_9 : decode cX2_add 9 = .ok (.aload_n 0, 1) := by decide +kernel
theorem dX2_add_10 : decode cX2_add 10 = .ok (.getfield 9, 3) := by decide +kernel
theorem dX2_add_13 : decode cX2_add 13 = .ok (.aload_n 0, 1) := by decide +kernel
theorem dX2_add_14 : decode cX2_add 14 = .ok (.getfield 15, 3) := by decide +kernel
theorem dX2_add_17 : decode cX2_add 17 = .ok (.iload_n 1, 1) := by decide +kernel
theorem dX2_add_18 : decode cX2_add 18 = .ok (.bastore, 1) := by decide +kernel
theorem dX2_add_19 : decode cX2_add 19 = .ok (.aload_n 0, 1) := by decide +kernel
theorem dX2_add_20 : decode cX2_add 20 = .ok (.dup, 1) := by decide +kernel
theorem dX2_add_21 : decode cX2_add 21 = .ok (.getfield 15, 3) := by decide +kernel
theorem dX2_add_24 : decode cX2_add 24 = .ok (.iconst 1, 1) := by decide +kernel
theorem dX2_add_25 : decode cX2_add 25 = .ok (.iadd, 1) := by decide +kernel
theorem dX2_add_26 : decode cX2_add 26 = .ok (.putfield 15, 3) := by decide +kernel
theorem dX2_add_29 : decode cX2_add 29 = .ok (.return_, 1) := by decide +kernel
theorem dX2_tellTo_0 : decode cX2_tellTo 0 = .ok (.aload_n 0, 1) := by decide +kernel
theorem dX2_tellTo_1 : decode cX2_tellTo 1 = .ok (.iconst 0, 1) := by decide +kernel
theorem dX2_tellTo_2 : decode cX2_tellTo 2 = .ok (.putfield 22, 3) := by decide +kernel
theorem dX2_tellTo_5 : decode cX2_tellTo 5 = .ok (.iconst 1, 1) := by decide +kernel
theorem dX2_tellTo_6 : decode cX2_tellTo 6 = .ok (.istore_n 2, 1) := by decide +kernel
theorem dX2_tellTo_7 : decode cX2_tellTo 7 = .ok (.iload_n 2, 1) := by decide +kernel
theorem dX2_tellTo_8 : decode cX2_tellTo 8 = .ok (.bipush 120, 2) := by decide +kernel
theorem dX2_tellTo_10 : decode cX2_tellTo 10 = .ok (.if_icmp .gt 52, 3) := by decide +kernel
theorem dX2_tellTo_13 : decode cX2_tellTo 13 = .ok (.aload_n 0, 1) := by decide +kernel
theorem dX2_tellTo_14 : decode cX2_tellTo 14 = .ok (.invokevirtual 31, 3) := by decide +kernel
theorem dX2_tellTo_17 : decode cX2_tellTo 17 = .ok (.aload_n 0, 1) := by decide +kernel
theorem dX2_tellTo_18 : decode cX2_tellTo 18 = .ok (.aload_n 1, 1) := by decide +kernel
theorem dX2_tellTo_19 : decode cX2_tellTo 19 = .ok (.invokevirtual 34, 3) := by decide +kernel
theorem dX2_tellTo_22 : decode cX2_tellTo 22 = .ok (.ifCond .ne 10, 3) := by decide +kernel
theorem dX2_tellTo_25 : decode cX2_tellTo 25 = .ok (.iconst (-1), 1) := by decide +kernel
theorem dX2_tellTo_26 : decode cX2_tellTo 26 = .ok (.aload_n 0, 1) := by decide +kernel
theorem dX2_tellTo_27 : decode cX2_tellTo 27 = .ok (.getfield 19, 3) := by decide +kernel
theorem dX2_tellTo_30 : decode cX2_tellTo 30 = .ok (.isub, 1) := by decide +kernel
theorem dX2_tellTo_31 : decode cX2_tellTo 31 = .ok (.ireturn, 1) := by decide +kernel
theorem dX2_tellTo_32 : decode cX2_tellTo 32 = .ok (.aload_n 0, 1) := by decide +kernel
theorem dX2_tellTo_33 : decode cX2_tellTo 33 = .ok (.getfield 25, 3) := by decide +kernel
theorem dX2_tellTo_36 : decode cX2_tellTo 36 = .ok (.ifCond .ne 5, 3) := by decide +kernel
theorem dX2_tellTo_39 : decode cX2_tellTo 39 = .ok (.iload_n 2, 1) := by decide +kernel
theorem dX2_tellTo_40 : decode cX2_tellTo 40 = .ok (.ireturn, 1) := by decide +kernel
theorem dX2_tellTo_41 : decode cX2_tellTo 41 = .ok (.aload_n 0, 1) := by decide +kernel
theorem dX2_tellTo_42 : decode cX2_tellTo 42 = .ok (.getfield 25, 3) := by decide +kernel
theorem dX2_tellTo_45 : decode cX2_tellTo 45 = .ok (.iconst 3, 1) := by decide +kernel
theorem dX2_tellTo_46 : decode cX2_tellTo 46 = .ok (.if_icmp .eq 10, 3) := by decide +kernel
theorem dX2_tellTo_49 : decode cX2_tellTo 49 = .ok (.iconst (-1), 1) := by decide +kernel
theorem dX2_tellTo_50 : decode cX2_tellTo 50 = .ok (.aload_n 0, 1) := by decide +kernel
theorem dX2_tellTo_51 : decode cX2_tellTo 51 = .ok (.getfield 19, 3) := by decide +kernel
theorem dX2_tellTo_54 : decode cX2_tellTo 54 = .ok (.isub, 1) := by decide +kernel
theorem dX2_tellTo_55 : decode cX2_tellTo 55 = .ok (.ireturn, 1) := by decide +kernel
theorem dX2_tellTo_56 : decode cX2_tellTo 56 = .ok (.iinc 2 1, 3) := by decide +kernel
theorem dX2_tellTo_59 : decode cX2_tellTo 59 = .ok (.goto (-52), 3) := by decide +kernel
theorem dX2_tellTo_62 : decode cX2_tellTo 62 = .ok (.iconst (-1), 1) := by decide +kernel
theorem dX2_tellTo_63 : decode cX2_tellTo 63 = .ok (.aload_n 0, 1) := by decide +kernel
theorem dX2_tellTo_64 : decode cX2_tellTo 64 = .ok (.getfield 19, 3) := by decide +kernel
theorem dX2_tellTo_67 : decode cX2_tellTo 67 = .ok (.isub, 1) := by decide +kernel
theorem dX2_tellTo_68 : decode cX2_tellTo 68 = .ok (.ireturn, 1) := by decide +kernel
theorem dX2_takeItem_0 : decode cX2_takeItem 0 = .ok (.aload_n 0, 1) := by decide +kernel
theorem dX2_takeItem_1 : decode cX2_takeItem 1 = .ok (.getfield 25, 3) := by decide +kernel
theorem dX2_takeItem_4 : decode cX2_takeItem 4 = .ok (.iconst 1, 1) := by decide +kernel
theorem dX2_takeItem_5 : decode cX2_takeItem 5 = .ok (.if_icmp .eq 5, 3) := by decide +kernel
theorem dX2_takeItem_8 : decode cX2_takeItem 8 = .ok (.iconst 0, 1) := by decide +kernel
theorem dX2_takeItem_9 : decode cX2_takeItem 9 = .ok (.ireturn, 1) := by decide +kernel
theorem dX2_takeItem_10 : decode cX2_takeItem 10 = .ok (.aload_n 0, 1) := by decide +kernel
theorem dX2_takeItem_11 : decode cX2_takeItem 11 = .ok (.ldc 38, 2) := by decide +kernel
theorem dX2_takeItem_13 : decode cX2_takeItem 13 = .ok (.invokevirtual 40, 3) := by decide +kernel
theorem dX2_takeItem_16 : decode cX2_takeItem 16 = .ok (.ifCond .eq 9, 3) := by decide +kernel
theorem dX2_takeItem_19 : decode cX2_takeItem 19 = .ok (.aload_n 0, 1) := by decide +kernel
theorem dX2_takeItem_20 : decode cX2_takeItem 20 = .ok (.aload_n 1, 1) := by decide +kernel
theorem dX2_takeItem_21 : decode cX2_takeItem 21 = .ok (.invokevirtual 44, 3) := by decide +kernel
theorem dX2_takeItem_24 : decode cX2_takeItem 24 = .ok (.ireturn, 1) := by decide +kernel
theorem dX2_takeItem_25 : decode cX2_takeItem 25 = .ok (.aload_n 0, 1) := by decide +kernel
theorem dX2_takeItem_26 : decode cX2_takeItem 26 = .ok (.ldc 47, 2) := by decide +kernel
theorem dX2_takeItem_28 : decode cX2_takeItem 28 = .ok (.invokevirtual 40, 3) := by decide +kernel
theorem dX2_takeItem_31 : decode cX2_takeItem 31 = .ok (.ifCond .eq 9, 3) := by decide +kernel
theorem dX2_takeItem_34 : decode cX2_takeItem 34 = .ok (.aload_n 0, 1) := by decide +kernel
theorem dX2_takeItem_35 : decode cX2_takeItem 35 = .ok (.aload_n 1, 1) := by decide +kernel
theorem dX2_takeItem_36 : decode cX2_takeItem 36 = .ok (.invokevirtual 49, 3) := by decide +kernel
theorem dX2_takeItem_39 : decode cX2_takeItem 39 = .ok (.ireturn, 1) := by decide +kernel
theorem dX2_takeItem_40 : decode cX2_takeItem 40 = .ok (.aload_n 0, 1) := by decide +kernel
theorem dX2_takeItem_41 : decode cX2_takeItem 41 = .ok (.ldc 52, 2) := by decide +kernel
theorem dX2_takeItem_43 : decode cX2_takeItem 43 = .ok (.invokevirtual 40, 3) := by decide +kernel
theorem dX2_takeItem_46 : decode cX2_takeItem 46 = .ok (.ifCond .eq 9, 3) := by decide +kernel
theorem dX2_takeItem_49 : decode cX2_takeItem 49 = .ok (.aload_n 0, 1) := by decide +kernel
theorem dX2_takeItem_50 : decode cX2_takeItem 50 = .ok (.aload_n 1, 1) := by decide +kernel
theorem dX2_takeItem_51 : decode cX2_takeItem 51 = .ok (.invokevirtual 54, 3) := by decide +kernel
theorem dX2_takeItem_54 : decode cX2_takeItem 54 = .ok (.ireturn, 1) := by decide +kernel
theorem dX2_takeItem_55 : decode cX2_takeItem 55 = .ok (.aload_n 0, 1) := by decide +kernel
theorem dX2_takeItem_56 : decode cX2_takeItem 56 = .ok (.aload_n 1, 1) := by decide +kernel
theorem dX2_takeItem_57 : decode cX2_takeItem 57 = .ok (.invokevirtual 57, 3) := by decide +kernel
theorem dX2_takeItem_60 : decode cX2_takeItem 60 = .ok (.ireturn, 1) := by decide +kernel
theorem dX2_takePerson_0 : decode cX2_takePerson 0 = .ok (.aload_n 0, 1) := by decide +kernel
theorem dX2_takePerson_1 : decode cX2_takePerson 1 = .ok (.invokevirtual 60, 3) := by decide +kernel
theorem dX2_takePerson_4 : decode cX2_takePerson 4 = .ok (.istore_n 2, 1) := by decide +kernel
theorem dX2_takePerson_5 : decode cX2_takePerson 5 = .ok (.iload_n 2, 1) := by decide +kernel
theorem dX2_takePerson_6 : decode cX2_takePerson 6 = .ok (.ifCond .lt 12, 3) := by decide +kernel
theorem dX2_takePerson_9 : decode cX2_takePerson 9 = .ok (.aload_n 1, 1) := by decide +kernel
theorem dX2_takePerson_10 : decode cX2_takePerson 10 = .ok (.getfield 64, 3) := by decide +kernel
theorem dX2_takePerson_13 : decode cX2_takePerson 13 = .ok (.bipush 8, 2) := by decide +kernel
theorem dX2_takePerson_15 : decode cX2_takePerson 15 = .ok (.if_icmp .lt 5, 3) := by decide +kernel
theorem dX2_takePerson_18 : decode cX2_takePerson 18 = .ok (.iconst 0, 1) := by decide +kernel
theorem dX2_takePerson_19 : decode cX2_takePerson 19 = .ok (.ireturn, 1) := by decide +kernel
theorem dX2_takePerson_20 : decode cX2_takePerson 20 = .ok (.aload_n 1, 1) := by decide +kernel
theorem dX2_takePerson_21 : decode cX2_takePerson 21 = .ok (.iload_n 2, 1) := by decide +kernel
theorem dX2_takePerson_22 : decode cX2_takePerson 22 = .ok (.bipush 60, 2) := by decide +kernel
theorem dX2_takePerson_24 : decode cX2_takePerson 24 = .ok (.invokevirtual 69, 3) := by decide +kernel
theorem dX2_takePerson_27 : decode cX2_takePerson 27 = .ok (.istore_n 3, 1) := by decide +kernel
theorem dX2_takePerson_28 : decode cX2_takePerson 28 = .ok (.aload_n 0, 1) := by decide +kernel
theorem dX2_takePerson_29 : decode cX2_takePerson 29 = .ok (.invokevirtual 31, 3) := by decide +kernel
theorem dX2_takePerson_32 : decode cX2_takePerson 32 = .ok (.aload_n 0, 1) := by decide +kernel
theorem dX2_takePerson_33 : decode cX2_takePerson 33 = .ok (.ldc 73, 2) := by decide +kernel
theorem dX2_takePerson_35 : decode cX2_takePerson 35 = .ok (.invokevirtual 40, 3) := by decide +kernel
theorem dX2_takePerson_38 : decode cX2_takePerson 38 = .ok (.ifCond .eq 32, 3) := by decide +kernel
theorem dX2_takePerson_41 : decode cX2_takePerson 41 = .ok (.aload_n 0, 1) := by decide +kernel
theorem dX2_takePerson_42 : decode cX2_takePerson 42 = .ok (.invokevirtual 31, 3) := by decide +kernel
theorem dX2_takePerson_45 : decode cX2_takePerson 45 = .ok (.aload_n 0, 1) := by decide +kernel
theorem dX2_takePerson_46 : decode cX2_takePerson 46 = .ok (.bipush 99, 2) := by decide +kernel
theorem dX2_takePerson_48 : decode cX2_takePerson 48 = .ok (.invokevirtual 75, 3) := by decide +kernel
theorem dX2_takePerson_51 : decode cX2_takePerson 51 = .ok (.ifCond .ne 5, 3) := by decide +kernel
theorem dX2_takePerson_54 : decode cX2_takePerson 54 = .ok (.iconst 0, 1) := by decide +kernel
theorem dX2_takePerson_55 : decode cX2_takePerson 55 = .ok (.ireturn, 1) := by decide +kernel
theorem dX2_takePerson_56 : decode cX2_takePerson 56 = .ok (.aload_n 1, 1) := by decide +kernel
theorem dX2_takePerson_57 : decode cX2_takePerson 57 = .ok (.getfield 79, 3) := by decide +kernel
theorem dX2_takePerson_60 : decode cX2_takePerson 60 = .ok (.iload_n 3, 1) := by decide +kernel
theorem dX2_takePerson_61 : decode cX2_takePerson 61 = .ok (.aload_n 0, 1) := by decide +kernel
theorem dX2_takePerson_62 : decode cX2_takePerson 62 = .ok (.getfield 28, 3) := by decide +kernel
theorem dX2_takePerson_65 : decode cX2_takePerson 65 = .ok (.iastore, 1) := by decide +kernel
theorem dX2_takePerson_66 : decode cX2_takePerson 66 = .ok (.aload_n 0, 1) := by decide +kernel
theorem dX2_takePerson_67 : decode cX2_takePerson 67 = .ok (.invokevirtual 31, 3) := by decide +kernel
theorem dX2_takePerson_70 : decode cX2_takePerson 70 = .ok (.iconst 1, 1) := by decide +kernel
theorem dX2_takePerson_71 : decode cX2_takePerson 71 = .ok (.ireturn, 1) := by decide +kernel
theorem dX2_takeCue_0 : decode cX2_takeCue 0 = .ok (.aload_n 0, 1) := by decide +kernel
theorem dX2_takeCue_1 : decode cX2_takeCue 1 = .ok (.invokevirtual 31, 3) := by decide +kernel
theorem dX2_takeCue_4 : decode cX2_takeCue 4 = .ok (.aload_n 0, 1) := by decide +kernel
theorem dX2_takeCue_5 : decode cX2_takeCue 5 = .ok (.bipush 15, 2) := by decide +kernel
theorem dX2_takeCue_7 : decode cX2_takeCue 7 = .ok (.invokevirtual 75, 3) := by decide +kernel
theorem dX2_takeCue_10 : decode cX2_takeCue 10 = .ok (.ifCond .ne 5, 3) := by decide +kernel
theorem dX2_takeCue_13 : decode cX2_takeCue 13 = .ok (.iconst 0, 1) := by decide +kernel
theorem dX2_takeCue_14 : decode cX2_takeCue 14 = .ok (.ireturn, 1) := by decide +kernel
theorem dX2_takeCue_15 : decode cX2_takeCue 15 = .ok (.aload_n 0, 1) := by decide +kernel
theorem dX2_takeCue_16 : decode cX2_takeCue 16 = .ok (.getfield 28, 3) := by decide +kernel
theorem dX2_takeCue_19 : decode cX2_takeCue 19 = .ok (.istore_n 2, 1) := by decide +kernel
theorem dX2_takeCue_20 : decode cX2_takeCue 20 = .ok (.aload_n 0, 1) := by decide +kernel
theorem dX2_takeCue_21 : decode cX2_takeCue 21 = .ok (.invokevirtual 31, 3) := by decide +kernel
theorem dX2_takeCue_24 : decode cX2_takeCue 24 = .ok (.aload_n 0, 1) := by decide +kernel
theorem dX2_takeCue_25 : decode cX2_takeCue 25 = .ok (.invokevirtual 83, 3) := by decide +kernel
theorem dX2_takeCue_28 : decode cX2_takeCue 28 = .ok (.istore_n 3, 1) := by decide +kernel
theorem dX2_takeCue_29 : decode cX2_takeCue 29 = .ok (.iload_n 3, 1) := by decide +kernel
theorem dX2_takeCue_30 : decode cX2_takeCue 30 = .ok (.ifCond .ge 5, 3) := by decide +kernel
theorem dX2_takeCue_33 : decode cX2_takeCue 33 = .ok (.iconst 0, 1) := by decide +kernel
theorem dX2_takeCue_34 : decode cX2_takeCue 34 = .ok (.ireturn, 1) := by decide +kernel
theorem dX2_takeCue_35 : decode cX2_takeCue 35 = .ok (.aload_n 1, 1) := by decide +kernel
theorem dX2_takeCue_36 : decode cX2_takeCue 36 = .ok (.getfield 86, 3) := by decide +kernel
theorem dX2_takeCue_39 : decode cX2_takeCue 39 = .ok (.iload_n 2, 1) := by decide +kernel
theorem dX2_takeCue_40 : decode cX2_takeCue 40 = .ok (.iload_n 3, 1) := by decide +kernel
theorem dX2_takeCue_41 : decode cX2_takeCue 41 = .ok (.iastore, 1) := by decide +kernel
theorem dX2_takeCue_42 : decode cX2_takeCue 42 = .ok (.aload_n 0, 1) := by decide +kernel
theorem dX2_takeCue_43 : decode cX2_takeCue 43 = .ok (.invokevirtual 31, 3) := by decide +kernel
theorem dX2_takeCue_46 : decode cX2_takeCue 46 = .ok (.iconst 1, 1) := by decide +kernel
theorem dX2_takeCue_47 : decode cX2_takeCue 47 = .ok (.ireturn, 1) := by decide +kernel
theorem dX2_takeTense_0 : decode cX2_takeTense 0 = .ok (.aload_n 0, 1) := by decide +kernel
theorem dX2_takeTense_1 : decode cX2_takeTense 1 = .ok (.invokevirtual 31, 3) := by decide +kernel
theorem dX2_takeTense_4 : decode cX2_takeTense 4 = .ok (.aload_n 0, 1) := by decide +kernel
theorem dX2_takeTense_5 : decode cX2_takeTense 5 = .ok (.bipush 15, 2) := by decide +kernel
theorem dX2_takeTense_7 : decode cX2_takeTense 7 = .ok (.invokevirtual 75, 3) := by decide +kernel
theorem dX2_takeTense_10 : decode cX2_takeTense 10 = .ok (.ifCond .ne 5, 3) := by decide +kernel
theorem dX2_takeTense_13 : decode cX2_takeTense 13 = .ok (.iconst 0, 1) := by decide +kernel
theorem dX2_takeTense_14 : decode cX2_takeTense 14 = .ok (.ireturn, 1) := by decide +kernel
theorem dX2_takeTense_15 : decode cX2_takeTense 15 = .ok (.aload_n 0, 1) := by decide +kernel
theorem dX2_takeTense_16 : decode cX2_takeTense 16 = .ok (.getfield 28, 3) := by decide +kernel
theorem dX2_takeTense_19 : decode cX2_takeTense 19 = .ok (.istore_n 2, 1) := by decide +kernel
theorem dX2_takeTense_20 : decode cX2_takeTense 20 = .ok (.aload_n 0, 1) := by decide +kernel
theorem dX2_takeTense_21 : decode cX2_takeTense 21 = .ok (.invokevirtual 31, 3) := by decide +kernel
theorem dX2_takeTense_24 : decode cX2_takeTense 24 = .ok (.aload_n 0, 1) := by decide +kernel
theorem dX2_takeTense_25 : decode cX2_takeTense 25 = .ok (.bipush 20, 2) := by decide +kernel
theorem dX2_takeTense_27 : decode cX2_takeTense 27 = .ok (.invokevirtual 75, 3) := by decide +kernel
theorem dX2_takeTense_30 : decode cX2_takeTense 30 = .ok (.ifCond .ne 5, 3) := by decide +kernel
theorem dX2_takeTense_33 : decode cX2_takeTense 33 = .ok (.iconst 0, 1) := by decide +kernel
theorem dX2_takeTense_34 : decode cX2_takeTense 34 = .ok (.ireturn, 1) := by decide +kernel
theorem dX2_takeTense_35 : decode cX2_takeTense 35 = .ok (.aload_n 1, 1) := by decide +kernel
theorem dX2_takeTense_36 : decode cX2_takeTense 36 = .ok (.getfield 89, 3) := by decide +kernel
theorem dX2_takeTense_39 : decode cX2_takeTense 39 = .ok (.iload_n 2, 1) := by decide +kernel
theorem dX2_takeTense_40 : decode cX2_takeTense 40 = .ok (.aload_n 0, 1) := by decide +kernel
theorem dX2_takeTense_41 : decode cX2_takeTense 41 = .ok (.getfield 28, 3) := by decide +kernel
theorem dX2_takeTense_44 : decode cX2_takeTense 44 = .ok (.iastore, 1) := by decide +kernel
theorem dX2_takeTense_45 : decode cX2_takeTense 45 = .ok (.aload_n 0, 1) := by decide +kernel
theorem dX2_takeTense_46 : decode cX2_takeTense 46 = .ok (.invokevirtual 31, 3) := by decide +kernel
theorem dX2_takeTense_49 : decode cX2_takeTense 49 = .ok (.iconst 1, 1) := by decide +kernel
theorem dX2_takeTense_50 : decode cX2_takeTense 50 = .ok (.ireturn, 1) := by decide +kernel
theorem dX2_takeSwap_0 : decode cX2_takeSwap 0 = .ok (.aload_n 0, 1) := by decide +kernel
theorem dX2_takeSwap_1 : decode cX2_takeSwap 1 = .ok (.invokevirtual 31, 3) := by decide +kernel
theorem dX2_takeSwap_4 : decode cX2_takeSwap 4 = .ok (.aload_n 0, 1) := by decide +kernel
theorem dX2_takeSwap_5 : decode cX2_takeSwap 5 = .ok (.aload_n 1, 1) := by decide +kernel
theorem dX2_takeSwap_6 : decode cX2_takeSwap 6 = .ok (.getfield 64, 3) := by decide +kernel
theorem dX2_takeSwap_9 : decode cX2_takeSwap 9 = .ok (.iconst 1, 1) := by decide +kernel
theorem dX2_takeSwap_10 : decode cX2_takeSwap 10 = .ok (.isub, 1) := by decide +kernel
theorem dX2_takeSwap_11 : decode cX2_takeSwap 11 = .ok (.invokevirtual 75, 3) := by decide +kernel
theorem dX2_takeSwap_14 : decode cX2_takeSwap 14 = .ok (.ifCond .ne 5, 3) := by decide +kernel
theorem dX2_takeSwap_17 : decode cX2_takeSwap 17 = .ok (.iconst 0, 1) := by decide +kernel
theorem dX2_takeSwap_18 : decode cX2_takeSwap 18 = .ok (.ireturn, 1) := by decide +kernel
theorem dX2_takeSwap_19 : decode cX2_takeSwap 19 = .ok (.aload_n 0, 1) := by decide +kernel
theorem dX2_takeSwap_20 : decode cX2_takeSwap 20 = .ok (.getfield 28, 3) := by decide +kernel
theorem dX2_takeSwap_23 : decode cX2_takeSwap 23 = .ok (.istore_n 2, 1) := by decide +kernel
theorem dX2_takeSwap_24 : decode cX2_takeSwap 24 = .ok (.aload_n 0, 1) := by decide +kernel
theorem dX2_takeSwap_25 : decode cX2_takeSwap 25 = .ok (.invokevirtual 31, 3) := by decide +kernel
theorem dX2_takeSwap_28 : decode cX2_takeSwap 28 = .ok (.aload_n 0, 1) := by decide +kernel
theorem dX2_takeSwap_29 : decode cX2_takeSwap 29 = .ok (.aload_n 1, 1) := by decide +kernel
theorem dX2_takeSwap_30 : decode cX2_takeSwap 30 = .ok (.getfield 64, 3) := by decide +kernel
theorem dX2_takeSwap_33 : decode cX2_takeSwap 33 = .ok (.iconst 1, 1) := by decide +kernel
theorem dX2_takeSwap_34 : decode cX2_takeSwap 34 = .ok (.isub, 1) := by decide +kernel
theorem dX2_takeSwap_35 : decode cX2_takeSwap 35 = .ok (.invokevirtual 75, 3) := by decide +kernel
theorem dX2_takeSwap_38 : decode cX2_takeSwap 38 = .ok (.ifCond .eq 11, 3) := by decide +kernel
theorem dX2_takeSwap_41 : decode cX2_takeSwap 41 = .ok (.aload_n 0, 1) := by decide +kernel
theorem dX2_takeSwap_42 : decode cX2_takeSwap 42 = .ok (.getfield 28, 3) := by decide +kernel
theorem dX2_takeSwap_45 : decode cX2_takeSwap 45 = .ok (.iload_n 2, 1) := by decide +kernel
theorem dX2_takeSwap_46 : decode cX2_takeSwap 46 = .ok (.if_icmp .ne 5, 3) := by decide +kernel
theorem dX2_takeSwap_49 : decode cX2_takeSwap 49 = .ok (.iconst 0, 1) := by decide +kernel
theorem dX2_takeSwap_50 : decode cX2_takeSwap 50 = .ok (.ireturn, 1) := by decide +kernel
theorem dX2_takeSwap_51 : decode cX2_takeSwap 51 = .ok (.aload_n 1, 1) := by decide +kernel
theorem dX2_takeSwap_52 : decode cX2_takeSwap 52 = .ok (.iload_n 2, 1) := by decide +kernel
theorem dX2_takeSwap_53 : decode cX2_takeSwap 53 = .ok (.aload_n 0, 1) := by decide +kernel
theorem dX2_takeSwap_54 : decode cX2_takeSwap 54 = .ok (.getfield 28, 3) := by decide +kernel
theorem dX2_takeSwap_57 : decode cX2_takeSwap 57 = .ok (.invokevirtual 92, 3) := by decide +kernel
theorem dX2_takeSwap_60 : decode cX2_takeSwap 60 = .ok (.aload_n 0, 1) := by decide +kernel
theorem dX2_takeSwap_61 : decode cX2_takeSwap 61 = .ok (.invokevirtual 31, 3) := by decide +kernel
theorem dX2_takeSwap_64 : decode cX2_takeSwap 64 = .ok (.iconst 1, 1) := by decide +kernel
theorem dX2_takeSwap_65 : decode cX2_takeSwap 65 = .ok (.ireturn, 1) := by decide +kernel
theorem dX2_kindNamed_0 : decode cX2_kindNamed 0 = .ok (.iconst 0, 1) := by decide +kernel
theorem dX2_kindNamed_1 : decode cX2_kindNamed 1 = .ok (.istore_n 1, 1) := by decide +kernel
theorem dX2_kindNamed_2 : decode cX2_kindNamed 2 = .ok (.iload_n 1, 1) := by decide +kernel
theorem dX2_kindNamed_3 : decode cX2_kindNamed 3 = .ok (.bipush 6, 2) := by decide +kernel
theorem dX2_kindNamed_5 : decode cX2_kindNamed 5 = .ok (.if_icmp .ge 22, 3) := by decide +kernel
theorem dX2_kindNamed_8 : decode cX2_kindNamed 8 = .ok (.aload_n 0, 1) := by decide +kernel
theorem dX2_kindNamed_9 : decode cX2_kindNamed 9 = .ok (.iload_n 1, 1) := by decide +kernel
theorem dX2_kindNamed_10 : decode cX2_kindNamed 10 = .ok (.invokestatic 96, 3) := by decide +kernel
theorem dX2_kindNamed_13 : decode cX2_kindNamed 13 = .ok (.invokevirtual 40, 3) := by decide +kernel
theorem dX2_kindNamed_16 : decode cX2_kindNamed 16 = .ok (.ifCond .eq 5, 3) := by decide +kernel
theorem dX2_kindNamed_19 : decode cX2_kindNamed 19 = .ok (.iload_n 1, 1) := by decide +kernel
theorem dX2_kindNamed_20 : decode cX2_kindNamed 20 = .ok (.ireturn, 1) := by decide +kernel
theorem dX2_kindNamed_21 : decode cX2_kindNamed 21 = .ok (.iinc 1 1, 3) := by decide +kernel
theorem dX2_kindNamed_24 : decode cX2_kindNamed 24 = .ok (.goto (-22), 3) := by decide +kernel
theorem dX2_kindNamed_27 : decode cX2_kindNamed 27 = .ok (.iconst (-1), 1) := by decide +kernel
theorem dX2_kindNamed_28 : decode cX2_kindNamed 28 = .ok (.ireturn, 1) := by decide +kernel
theorem dX2_cueNamed_0 : decode cX2_cueNamed 0 = .ok (.iconst 0, 1) := by decide +kernel
theorem dX2_cueNamed_1 : decode cX2_cueNamed 1 = .ok (.istore_n 1, 1) := by decide +kernel
theorem dX2_cueNamed_2 : decode cX2_cueNamed 2 = .ok (.iload_n 1, 1) := by decide +kernel
theorem dX2_cueNamed_3 : decode cX2_cueNamed 3 = .ok (.iconst 4, 1) := by decide +kernel
theorem dX2_cueNamed_4 : decode cX2_cueNamed 4 = .ok (.if_icmp .gt 22, 3) := by decide +kernel
theorem dX2_cueNamed_7 : decode cX2_cueNamed 7 = .ok (.aload_n 0, 1) := by decide +kernel
theorem dX2_cueNamed_8 : decode cX2_cueNamed 8 = .ok (.iload_n 1, 1) := by decide +kernel
theorem dX2_cueNamed_9 : decode cX2_cueNamed 9 = .ok (.invokestatic 100, 3) := by decide +kernel
theorem dX2_cueNamed_12 : decode cX2_cueNamed 12 = .ok (.invokevirtual 40, 3) := by decide +kernel
theorem dX2_cueNamed_15 : decode cX2_cueNamed 15 = .ok (.ifCond .eq 5, 3) := by decide +kernel
theorem dX2_cueNamed_18 : decode cX2_cueNamed 18 = .ok (.iload_n 1, 1) := by decide +kernel
theorem dX2_cueNamed_19 : decode cX2_cueNamed 19 = .ok (.ireturn, 1) := by decide +kernel
theorem dX2_cueNamed_20 : decode cX2_cueNamed 20 = .ok (.iinc 1 1, 3) := by decide +kernel
theorem dX2_cueNamed_23 : decode cX2_cueNamed 23 = .ok (.goto (-21), 3) := by decide +kernel
theorem dX2_cueNamed_26 : decode cX2_cueNamed 26 = .ok (.iconst (-1), 1) := by decide +kernel
theorem dX2_cueNamed_27 : decode cX2_cueNamed 27 = .ok (.ireturn, 1) := by decide +kernel
theorem dX2_nameOfKind_0 : decode cX2_nameOfKind 0 = .ok (.iload_n 0, 1) := by decide +kernel
theorem dX2_nameOfKind_1 : decode cX2_nameOfKind 1 = .ok (.tableswitch 50 1 5 #[35, 38, 41, 44, 47], 35) := by decide +kernel
theorem dX2_nameOfKind_36 : decode cX2_nameOfKind 36 = .ok (.ldc 103, 2) := by decide +kernel
theorem dX2_nameOfKind_38 : decode cX2_nameOfKind 38 = .ok (.areturn, 1) := by decide +kernel
theorem dX2_nameOfKind_39 : decode cX2_nameOfKind 39 = .ok (.ldc 105, 2) := by decide +kernel
theorem dX2_nameOfKind_41 : decode cX2_nameOfKind 41 = .ok (.areturn, 1) := by decide +kernel
theorem dX2_nameOfKind_42 : decode cX2_nameOfKind 42 = .ok (.ldc 107, 2) := by decide +kernel
theorem dX2_nameOfKind_44 : decode cX2_nameOfKind 44 = .ok (.areturn, 1) := by decide +kernel
theorem dX2_nameOfKind_45 : decode cX2_nameOfKind 45 = .ok (.ldc 109, 2) := by decide +kernel
theorem dX2_nameOfKind_47 : decode cX2_nameOfKind 47 = .ok (.areturn, 1) := by decide +kernel
theorem dX2_nameOfKind_48 : decode cX2_nameOfKind 48 = .ok (.ldc 111, 2) := by decide +kernel
theorem dX2_nameOfKind_50 : decode cX2_nameOfKind 50 = .ok (.areturn, 1) := by decide +kernel
theorem dX2_nameOfKind_51 : decode cX2_nameOfKind 51 = .ok (.ldc 113, 2) := by decide +kernel
theorem dX2_nameOfKind_53 : decode cX2_nameOfKind 53 = .ok (.areturn, 1) := by decide +kernel
theorem dX2_nameOfCue_0 : decode cX2_nameOfCue 0 = .ok (.iload_n 0, 1) := by decide +kernel
theorem dX2_nameOfCue_1 : decode cX2_nameOfCue 1 = .ok (.tableswitch 43 1 4 #[31, 34, 37, 40], 31) := by decide +kernel
theorem dX2_nameOfCue_32 : decode cX2_nameOfCue 32 = .ok (.ldc 115, 2) := by decide +kernel
theorem dX2_nameOfCue_34 : decode cX2_nameOfCue 34 = .ok (.areturn, 1) := by decide +kernel
theorem dX2_nameOfCue_35 : decode cX2_nameOfCue 35 = .ok (.ldc 117, 2) := by decide +kernel
theorem dX2_nameOfCue_37 : decode cX2_nameOfCue 37 = .ok (.areturn, 1) := by decide +kernel
theorem dX2_nameOfCue_38 : decode cX2_nameOfCue 38 = .ok (.ldc 119, 2) := by decide +kernel
theorem dX2_nameOfCue_40 : decode cX2_nameOfCue 40 = .ok (.areturn, 1) := by decide +kernel
theorem dX2_nameOfCue_41 : decode cX2_nameOfCue 41 = .ok (.ldc 121, 2) := by decide +kernel
theorem dX2_nameOfCue_43 : decode cX2_nameOfCue 43 = .ok (.areturn, 1) := by decide +kernel
theorem dX2_nameOfCue_44 : decode cX2_nameOfCue 44 = .ok (.ldc 123, 2) := by decide +kernel
theorem dX2_nameOfCue_46 : decode cX2_nameOfCue 46 = .ok (.areturn, 1) := by decide +kernel
theorem dX2_isNumberTo_0 : decode cX2_isNumberTo 0 = .ok (.aload_n 0, 1) := by decide +kernel
theorem dX2_isNumberTo_1 : decode cX2_isNumberTo 1 = .ok (.getfield 25, 3) := by decide +kernel
theorem dX2_isNumberTo_4 : decode cX2_isNumberTo 4 = .ok (.iconst 2, 1) := by decide +kernel
theorem dX2_isNumberTo_5 : decode cX2_isNumberTo 5 = .ok (.if_icmp .ne 15, 3) := by decide +kernel
theorem dX2_isNumberTo_8 : decode cX2_isNumberTo 8 = .ok (.aload_n 0, 1) := by decide +kernel
theorem dX2_isNumberTo_9 : decode cX2_isNumberTo 9 = .ok (.getfield 28, 3) := by decide +kernel
theorem dX2_isNumberTo_12 : decode cX2_isNumberTo 12 = .ok (.iload_n 1, 1) := by decide +kernel
theorem dX2_isNumberTo_13 : decode cX2_isNumberTo 13 = .ok (.if_icmp .gt 7, 3) := by decide +kernel
theorem dX2_isNumberTo_16 : decode cX2_isNumberTo 16 = .ok (.iconst 1, 1) := by decide +kernel
theorem dX2_isNumberTo_17 : decode cX2_isNumberTo 17 = .ok (.goto 4, 3) := by decide +kernel
theorem dX2_isNumberTo_20 : decode cX2_isNumberTo 20 = .ok (.iconst 0, 1) := by decide +kernel
theorem dX2_isNumberTo_21 : decode cX2_isNumberTo 21 = .ok (.ireturn, 1) := by decide +kernel
theorem dX2_isWord_0 : decode cX2_isWord 0 = .ok (.aload_n 0, 1) := by decide +kernel
theorem dX2_isWord_1 : decode cX2_isWord 1 = .ok (.getfield 25, 3) := by decide +kernel
theorem dX2_isWord_4 : decode cX2_isWord 4 = .ok (.iconst 1, 1) := by decide +kernel
theorem dX2_isWord_5 : decode cX2_isWord 5 = .ok (.if_icmp .ne 19, 3) := by decide +kernel
theorem dX2_isWord_8 : decode cX2_isWord 8 = .ok (.aload_n 0, 1) := by decide +kernel
theorem dX2_isWord_9 : decode cX2_isWord 9 = .ok (.getfield 22, 3) := by decide +kernel
theorem dX2_isWord_12 : decode cX2_isWord 12 = .ok (.aload_n 0, 1) := by decide +kernel
theorem dX2_isWord_13 : decode cX2_isWord 13 = .ok (.getfield 19, 3) := by decide +kernel
theorem dX2_isWord_16 : decode cX2_isWord 16 = .ok (.isub, 1) := by decide +kernel
theorem dX2_isWord_17 : decode cX2_isWord 17 = .ok (.aload_n 1, 1) := by decide +kernel
theorem dX2_isWord_18 : decode cX2_isWord 18 = .ok (.invokevirtual 125, 3) := by decide +kernel
theorem dX2_isWord_21 : decode cX2_isWord 21 = .ok (.if_icmp .eq 5, 3) := by decide +kernel
theorem dX2_isWord_24 : decode cX2_isWord 24 = .ok (.iconst 0, 1) := by decide +kernel
theorem dX2_isWord_25 : decode cX2_isWord 25 = .ok (.ireturn, 1) := by decide +kernel
theorem dX2_isWord_26 : decode cX2_isWord 26 = .ok (.iconst 0, 1) := by decide +kernel
theorem dX2_isWord_27 : decode cX2_isWord 27 = .ok (.istore_n 2, 1) := by decide +kernel
theorem dX2_isWord_28 : decode cX2_isWord 28 = .ok (.iload_n 2, 1) := by decide +kernel
theorem dX2_isWord_29 : decode cX2_isWord 29 = .ok (.aload_n 1, 1) := by decide +kernel
theorem dX2_isWord_30 : decode cX2_isWord 30 = .ok (.invokevirtual 125, 3) := by decide +kernel
theorem dX2_isWord_33 : decode cX2_isWord 33 = .ok (.if_icmp .ge 30, 3) := by decide +kernel
theorem dX2_isWord_36 : decode cX2_isWord 36 = .ok (.aload_n 0, 1) := by decide +kernel
theorem dX2_isWord_37 : decode cX2_isWord 37 = .ok (.getfield 9, 3) := by decide +kernel
theorem dX2_isWord_40 : decode cX2_isWord 40 = .ok (.aload_n 0, 1) := by decide +kernel
theorem dX2_isWord_41 : decode cX2_isWord 41 = .ok (.getfield 19, 3) := by decide +kernel
theorem dX2_isWord_44 : decode cX2_isWord 44 = .ok (.iload_n 2, 1) := by decide +kernel
theorem dX2_isWord_45 : decode cX2_isWord 45 = .ok (.iadd, 1) := by decide +kernel
theorem dX2_isWord_46 : decode cX2_isWord 46 = .ok (.baload, 1) := by decide +kernel
theorem dX2_isWord_47 : decode cX2_isWord 47 = .ok (.aload_n 1, 1) := by decide +kernel
theorem dX2_isWord_48 : decode cX2_isWord 48 = .ok (.iload_n 2, 1) := by decide +kernel
theorem dX2_isWord_49 : decode cX2_isWord 49 = .ok (.invokevirtual 129, 3) := by decide +kernel
theorem dX2_isWord_52 : decode cX2_isWord 52 = .ok (.if_icmp .eq 5, 3) := by decide +kernel
theorem dX2_isWord_55 : decode cX2_isWord 55 = .ok (.iconst 0, 1) := by decide +kernel
theorem dX2_isWord_56 : decode cX2_isWord 56 = .ok (.ireturn, 1) := by decide +kernel
theorem dX2_isWord_57 : decode cX2_isWord 57 = .ok (.iinc 2 1, 3) := by decide +kernel
theorem dX2_isWord_60 : decode cX2_isWord 60 = .ok (.goto (-32), 3) := by decide +kernel
theorem dX2_isWord_63 : decode cX2_isWord 63 = .ok (.iconst 1, 1) := by decide +kernel
theorem dX2_isWord_64 : decode cX2_isWord 64 = .ok (.ireturn, 1) := by decide +kernel
theorem dX2_take_0 : decode cX2_take 0 = .ok (.aload_n 0, 1) := by decide +kernel
theorem dX2_take_1 : decode cX2_take 1 = .ok (.aload_n 0, 1) := by decide +kernel
theorem dX2_take_2 : decode cX2_take 2 = .ok (.getfield 22, 3) := by decide +kernel
theorem dX2_take_5 : decode cX2_take 5 = .ok (.putfield 19, 3) := by decide +kernel
theorem dX2_take_8 : decode cX2_take 8 = .ok (.aload_n 0, 1) := by decide +kernel
theorem dX2_take_9 : decode cX2_take 9 = .ok (.getfield 19, 3) := by decide +kernel
theorem dX2_take_12 : decode cX2_take 12 = .ok (.aload_n 0, 1) := by decide +kernel
theorem dX2_take_13 : decode cX2_take 13 = .ok (.getfield 15, 3) := by decide +kernel
theorem dX2_take_16 : decode cX2_take 16 = .ok (.if_icmp .ge 30, 3) := by decide +kernel
theorem dX2_take_19 : decode cX2_take 19 = .ok (.aload_n 0, 1) := by decide +kernel
theorem dX2_take_20 : decode cX2_take 20 = .ok (.getfield 9, 3) := by decide +kernel
theorem dX2_take_23 : decode cX2_take 23 = .ok (.aload_n 0, 1) := by decide +kernel
theorem dX2_take_24 : decode cX2_take 24 = .ok (.getfield 19, 3) := by decide +kernel
theorem dX2_take_27 : decode cX2_take 27 = .ok (.baload, 1) := by decide +kernel
theorem dX2_take_28 : decode cX2_take 28 = .ok (.bipush 32, 2) := by decide +kernel
theorem dX2_take_30 : decode cX2_take 30 = .ok (.if_icmp .ne 16, 3) := by decide +kernel
theorem dX2_take_33 : decode cX2_take 33 = .ok (.aload_n 0, 1) := by decide +kernel
theorem dX2_take_34 : decode cX2_take 34 = .ok (.dup, 1) := by decide +kernel
theorem dX2_take_35 : decode cX2_take 35 = .ok (.getfield 19, 3) := by decide +kernel
theorem dX2_take_38 : decode cX2_take 38 = .ok (.iconst 1, 1) := by decide +kernel
theorem dX2_take_39 : decode cX2_take 39 = .ok (.iadd, 1) := by decide +kernel
theorem dX2_take_40 : decode cX2_take 40 = .ok (.putfield 19, 3) := by decide +kernel
theorem dX2_take_43 : decode cX2_take 43 = .ok (.goto (-35), 3) := by decide +kernel
theorem dX2_take_46 : decode cX2_take 46 = .ok (.aload_n 0, 1) := by decide +kernel
theorem dX2_take_47 : decode cX2_take 47 = .ok (.aload_n 0, 1) := by decide +kernel
theorem dX2_take_48 : decode cX2_take 48 = .ok (.getfield 19, 3) := by decide +kernel
theorem dX2_take_51 : decode cX2_take 51 = .ok (.putfield 22, 3) := by decide +kernel
theorem dX2_take_54 : decode cX2_take 54 = .ok (.aload_n 0, 1) := by decide +kernel
theorem dX2_take_55 : decode cX2_take 55 = .ok (.getfield 19, 3) := by decide +kernel
theorem dX2_take_58 : decode cX2_take 58 = .ok (.aload_n 0, 1) := by decide +kernel
theorem dX2_take_59 : decode cX2_take 59 = .ok (.getfield 15, 3) := by decide +kernel
theorem dX2_take_62 : decode cX2_take 62 = .ok (.if_icmp .lt 11, 3) := by decide +kernel
theorem dX2_take_65 : decode cX2_take 65 = .ok (.aload_n 0, 1) := by decide +kernel
theorem dX2_take_66 : decode cX2_take 66 = .ok (.iconst 0, 1) := by decide +kernel
theorem dX2_take_67 : decode cX2_take 67 = .ok (.putfield 25, 3) := by decide +kernel
theorem dX2_take_70 : decode cX2_take 70 = .ok (.goto 80, 3) := by decide +kernel
theorem dX2_take_73 : decode cX2_take 73 = .ok (.aload_n 0, 1) := by decide +kernel
theorem dX2_take_74 : decode cX2_take 74 = .ok (.getfield 9, 3) := by decide +kernel
theorem dX2_take_77 : decode cX2_take 77 = .ok (.aload_n 0, 1) := by decide +kernel
theorem dX2_take_78 : decode cX2_take 78 = .ok (.getfield 19, 3) := by decide +kernel
theorem dX2_take_81 : decode cX2_take 81 = .ok (.baload, 1) := by decide +kernel
theorem dX2_take_82 : decode cX2_take 82 = .ok (.invokestatic 133, 3) := by decide +kernel
theorem dX2_take_85 : decode cX2_take 85 = .ok (.ifCond .eq 10, 3) := by decide +kernel
theorem dX2_take_88 : decode cX2_take 88 = .ok (.aload_n 0, 1) := by decide +kernel
theorem dX2_take_89 : decode cX2_take 89 = .ok (.invokevirtual 137, 3) := by decide +kernel
theorem dX2_take_92 : decode cX2_take 92 = .ok (.goto 58, 3) := by decide +kernel
theorem dX2_take_95 : decode cX2_take 95 = .ok (.aload_n 0, 1) := by decide +kernel
theorem dX2_take_96 : decode cX2_take 96 = .ok (.getfield 9, 3) := by decide +kernel
theorem dX2_take_99 : decode cX2_take 99 = .ok (.aload_n 0, 1) := by decide +kernel
theorem dX2_take_100 : decode cX2_take 100 = .ok (.getfield 19, 3) := by decide +kernel
theorem dX2_take_103 : decode cX2_take 103 = .ok (.baload, 1) := by decide +kernel
theorem dX2_take_104 : decode cX2_take 104 = .ok (.invokestatic 140, 3) := by decide +kernel
theorem dX2_take_107 : decode cX2_take 107 = .ok (.ifCond .eq 10, 3) := by decide +kernel
theorem dX2_take_110 : decode cX2_take 110 = .ok (.aload_n 0, 1) := by decide +kernel
theorem dX2_take_111 : decode cX2_take 111 = .ok (.invokevirtual 143, 3) := by decide +kernel
theorem dX2_take_114 : decode cX2_take 114 = .ok (.goto 36, 3) := by decide +kernel
theorem dX2_take_117 : decode cX2_take 117 = .ok (.aload_n 0, 1) := by decide +kernel
theorem dX2_take_118 : decode cX2_take 118 = .ok (.aload_n 0, 1) := by decide +kernel
theorem dX2_take_119 : decode cX2_take 119 = .ok (.getfield 9, 3) := by decide +kernel
theorem dX2_take_122 : decode cX2_take 122 = .ok (.aload_n 0, 1) := by decide +kernel
theorem dX2_take_123 : decode cX2_take 123 = .ok (.getfield 19, 3) := by decide +kernel
theorem dX2_take_126 : decode cX2_take 126 = .ok (.baload, 1) := by decide +kernel
theorem dX2_take_127 : decode cX2_take 127 = .ok (.bipush 59, 2) := by decide +kernel
theorem dX2_take_129 : decode cX2_take 129 = .ok (.if_icmp .ne 7, 3) := by decide +kernel
theorem dX2_take_132 : decode cX2_take 132 = .ok (.iconst 3, 1) := by decide +kernel
theorem dX2_take_133 : decode cX2_take 133 = .ok (.goto 4, 3) := by decide +kernel
theorem dX2_take_136 : decode cX2_take 136 = .ok (.iconst 4, 1) := by decide +kernel
theorem dX2_take_137 : decode cX2_take 137 = .ok (.putfield 25, 3) := by decide +kernel
theorem dX2_take_140 : decode cX2_take 140 = .ok (.aload_n 0, 1) := by decide +kernel
theorem dX2_take_141 : decode cX2_take 141 = .ok (.dup, 1) := by decide +kernel
theorem dX2_take_142 : decode cX2_take 142 = .ok (.getfield 22, 3) := by decide +kernel
theorem dX2_take_145 : decode cX2_take 145 = .ok (.iconst 1, 1) := by decide +kernel
theorem dX2_take_146 : decode cX2_take 146 = .ok (.iadd, 1) := by decide +kernel
theorem dX2_take_147 : decode cX2_take 147 = .ok (.putfield 22, 3) := by decide +kernel
theorem dX2_take_150 : decode cX2_take 150 = .ok (.return_, 1) := by decide +kernel
theorem dX2_takeWord_0 : decode cX2_takeWord 0 = .ok (.aload_n 0, 1) := by decide +kernel
theorem dX2_takeWord_1 : decode cX2_takeWord 1 = .ok (.iconst 1, 1) := by decide +kernel
theorem dX2_takeWord_2 : decode cX2_takeWord 2 = .ok (.putfield 25, 3) := by decide +kernel
theorem dX2_takeWord_5 : decode cX2_takeWord 5 = .ok (.aload_n 0, 1) := by decide +kernel
theorem dX2_takeWord_6 : decode cX2_takeWord 6 = .ok (.getfield 22, 3) := by decide +kernel
theorem dX2_takeWord_9 : decode cX2_takeWord 9 = .ok (.aload_n 0, 1) := by decide +kernel
theorem dX2_takeWord_10 : decode cX2_takeWord 10 = .ok (.getfield 15, 3) := by decide +kernel
theorem dX2_takeWord_13 : decode cX2_takeWord 13 = .ok (.if_icmp .ge 31, 3) := by decide +kernel
theorem dX2_takeWord_16 : decode cX2_takeWord 16 = .ok (.aload_n 0, 1) := by decide +kernel
theorem dX2_takeWord_17 : decode cX2_takeWord 17 = .ok (.getfield 9, 3) := by decide +kernel
theorem dX2_takeWord_20 : decode cX2_takeWord 20 = .ok (.aload_n 0, 1) := by decide +kernel
theorem dX2_takeWord_21 : decode cX2_takeWord 21 = .ok (.getfield 22, 3) := by decide +kernel
theorem dX2_takeWord_24 : decode cX2_takeWord 24 = .ok (.baload, 1) := by decide +kernel
theorem dX2_takeWord_25 : decode cX2_takeWord 25 = .ok (.invokestatic 133, 3) := by decide +kernel
theorem dX2_takeWord_28 : decode cX2_takeWord 28 = .ok (.ifCond .eq 16, 3) := by decide +kernel
theorem dX2_takeWord_31 : decode cX2_takeWord 31 = .ok (.aload_n 0, 1) := by decide +kernel
theorem dX2_takeWord_32 : decode cX2_takeWord 32 = .ok (.dup, 1) := by decide +kernel
theorem dX2_takeWord_33 : decode cX2_takeWord 33 = .ok (.getfield 22, 3) := by decide +kernel
theorem dX2_takeWord_36 : decode cX2_takeWord 36 = .ok (.iconst 1, 1) := by decide +kernel
theorem dX2_takeWord_37 : decode cX2_takeWord 37 = .ok (.iadd, 1) := by decide +kernel
theorem dX2_takeWord_38 : decode cX2_takeWord 38 = .ok (.putfield 22, 3) := by decide +kernel
theorem dX2_takeWord_41 : decode cX2_takeWord 41 = .ok (.goto (-36), 3) := by decide +kernel
theorem dX2_takeWord_44 : decode cX2_takeWord 44 = .ok (.return_, 1) := by decide +kernel
theorem dX2_takeNumber_0 : decode cX2_takeNumber 0 = .ok (.aload_n 0, 1) := by decide +kernel
theorem dX2_takeNumber_1 : decode cX2_takeNumber 1 = .ok (.iconst 2, 1) := by decide +kernel
theorem dX2_takeNumber_2 : decode cX2_takeNumber 2 = .ok (.putfield 25, 3) := by decide +kernel
theorem dX2_takeNumber_5 : decode cX2_takeNumber 5 = .ok (.aload_n 0, 1) := by decide +kernel
theorem dX2_takeNumber_6 : decode cX2_takeNumber 6 = .ok (.iconst 0, 1) := by decide +kernel
theorem dX2_takeNumber_7 : decode cX2_takeNumber 7 = .ok (.putfield 28, 3) := by decide +kernel
theorem dX2_takeNumber_10 : decode cX2_takeNumber 10 = .ok (.aload_n 0, 1) := by decide +kernel
theorem dX2_takeNumber_11 : decode cX2_takeNumber 11 = .ok (.getfield 22, 3) := by decide +kernel
theorem dX2_takeNumber_14 : decode cX2_takeNumber 14 = .ok (.aload_n 0, 1) := by decide +kernel
theorem dX2_takeNumber_15 : decode cX2_takeNumber 15 = .ok (.getfield 15, 3) := by decide +kernel
theorem dX2_takeNumber_18 : decode cX2_takeNumber 18 = .ok (.if_icmp .ge 61, 3) := by decide +kernel
theorem dX2_takeNumber_21 : decode cX2_takeNumber 21 = .ok (.aload_n 0, 1) := by decide +kernel
theorem dX2_takeNumber_22 : decode cX2_takeNumber 22 = .ok (.getfield 9, 3) := by decide +kernel
theorem dX2_takeNumber_25 : decode cX2_takeNumber 25 = .ok (.aload_n 0, 1) := by decide +kernel
theorem dX2_takeNumber_26 : decode cX2_takeNumber 26 = .ok (.getfield 22, 3) := by decide +kernel
theorem dX2_takeNumber_29 : decode cX2_takeNumber 29 = .ok (.baload, 1) := by decide +kernel
theorem dX2_takeNumber_30 : decode cX2_takeNumber 30 = .ok (.invokestatic 140, 3) := by decide +kernel
theorem dX2_takeNumber_33 : decode cX2_takeNumber 33 = .ok (.ifCond .eq 46, 3) := by decide +kernel
theorem dX2_takeNumber_36 : decode cX2_takeNumber 36 = .ok (.aload_n 0, 1) := by decide +kernel
theorem dX2_takeNumber_37 : decode cX2_takeNumber 37 = .ok (.sipush 1000, 3) := by decide +kernel
theorem dX2_takeNumber_40 : decode cX2_takeNumber 40 = .ok (.aload_n 0, 1) := by decide +kernel
theorem dX2_takeNumber_41 : decode cX2_takeNumber 41 = .ok (.getfield 28, 3) := by decide +kernel
theorem dX2_takeNumber_44 : decode cX2_takeNumber 44 = .ok (.bipush 10, 2) := by decide +kernel
theorem dX2_takeNumber_46 : decode cX2_takeNumber 46 = .ok (.imul, 1) := by decide +kernel
theorem dX2_takeNumber_47 : decode cX2_takeNumber 47 = .ok (.aload_n 0, 1) := by decide +kernel
theorem dX2_takeNumber_48 : decode cX2_takeNumber 48 = .ok (.getfield 9, 3) := by decide +kernel
