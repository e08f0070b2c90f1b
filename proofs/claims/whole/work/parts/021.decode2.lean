theorem dX3_sheet_29 : decode cX3_sheet 29 = .ok (.aload_n 0, 1) := by decide +kernel
theorem dX3_sheet_30 : decode cX3_sheet 30 = .ok (.ldc 48, 2) := by decide +kernel
theorem dX3_sheet_32 : decode cX3_sheet 32 = .ok (.invokevirtual 49, 3) := by decide +kernel
theorem dX3_sheet_35 : decode cX3_sheet 35 = .ok (.ireturn, 1) := by decide +kernel
theorem dX3_sheet_36 : decode cX3_sheet 36 = .ok (.iload_n 3, 1) := by decide +kernel
theorem dX3_sheet_37 : decode cX3_sheet 37 = .ok (.ifCond .ge 10, 3) := by decide +kernel
theorem dX3_sheet_40 : decode cX3_sheet 40 = .ok (.aload_n 0, 1) := by decide +kernel
theorem dX3_sheet_41 : decode cX3_sheet 41 = .ok (.ldc 160, 2) := by decide +kernel
theorem dX3_sheet_43 : decode cX3_sheet 43 = .ok (.invokevirtual 49, 3) := by decide +kernel
theorem dX3_sheet_46 : decode cX3_sheet 46 = .ok (.ireturn, 1) := by decide +kernel
theorem dX3_sheet_47 : decode cX3_sheet 47 = .ok (.iload_n 3, 1) := by decide +kernel
theorem dX3_sheet_48 : decode cX3_sheet 48 = .ok (.bipush 40, 2) := by decide +kernel
theorem dX3_sheet_50 : decode cX3_sheet 50 = .ok (.if_icmp .le 10, 3) := by decide +kernel
theorem dX3_sheet_53 : decode cX3_sheet 53 = .ok (.aload_n 0, 1) := by decide +kernel
theorem dX3_sheet_54 : decode cX3_sheet 54 = .ok (.ldc 48, 2) := by decide +kernel
theorem dX3_sheet_56 : decode cX3_sheet 56 = .ok (.invokevirtual 49, 3) := by decide +kernel
theorem dX3_sheet_59 : decode cX3_sheet 59 = .ok (.ireturn, 1) := by decide +kernel
theorem dX3_sheet_60 : decode cX3_sheet 60 = .ok (.aload_n 0, 1) := by decide +kernel
theorem dX3_sheet_61 : decode cX3_sheet 61 = .ok (.getfield 35, 3) := by decide +kernel
theorem dX3_sheet_64 : decode cX3_sheet 64 = .ok (.iload_n 1, 1) := by decide +kernel
theorem dX3_sheet_65 : decode cX3_sheet 65 = .ok (.aaload, 1) := by decide +kernel
theorem dX3_sheet_66 : decode cX3_sheet 66 = .ok (.iload_n 2, 1) := by decide +kernel
theorem dX3_sheet_67 : decode cX3_sheet 67 = .ok (.iload_n 3, 1) := by decide +kernel
theorem dX3_sheet_68 : decode cX3_sheet 68 = .ok (.invokevirtual 161, 3) := by decide +kernel
theorem dX3_sheet_71 : decode cX3_sheet 71 = .ok (.aload_n 0, 1) := by decide +kernel
theorem dX3_sheet_72 : decode cX3_sheet 72 = .ok (.getfield 35, 3) := by decide +kernel
theorem dX3_sheet_75 : decode cX3_sheet 75 = .ok (.iload_n 1, 1) := by decide +kernel
theorem dX3_sheet_76 : decode cX3_sheet 76 = .ok (.aaload, 1) := by decide +kernel
theorem dX3_sheet_77 : decode cX3_sheet 77 = .ok (.getfield 164, 3) := by decide +kernel
theorem dX3_sheet_80 : decode cX3_sheet 80 = .ok (.ireturn, 1) := by decide +kernel
theorem dX3_write_0 : decode cX3_write 0 = .ok (.iload_n 1, 1) := by decide +kernel
theorem dX3_write_1 : decode cX3_write 1 = .ok (.invokestatic 157, 3) := by decide +kernel
theorem dX3_write_4 : decode cX3_write 4 = .ok (.ifCond .ne 11, 3) := by decide +kernel
theorem dX3_write_7 : decode cX3_write 7 = .ok (.aload_n 0, 1) := by decide +kernel
theorem dX3_write_8 : decode cX3_write 8 = .ok (.ldc 48, 2) := by decide +kernel
theorem dX3_write_10 : decode cX3_write 10 = .ok (.invokevirtual 49, 3) := by decide +kernel
theorem dX3_write_13 : decode cX3_write 13 = .ok (.i2l, 1) := by decide +kernel
theorem dX3_write_14 : decode cX3_write 14 = .ok (.lreturn, 1) := by decide +kernel
theorem dX3_write_15 : decode cX3_write 15 = .ok (.aload_n 0, 1) := by decide +kernel
theorem dX3_write_16 : decode cX3_write 16 = .ok (.getfield 35, 3) := by decide +kernel
theorem dX3_write_19 : decode cX3_write 19 = .ok (.iload_n 1, 1) := by decide +kernel
theorem dX3_write_20 : decode cX3_write 20 = .ok (.aaload, 1) := by decide +kernel
theorem dX3_write_21 : decode cX3_write 21 = .ok (.astore 5, 2) := by decide +kernel
theorem dX3_write_23 : decode cX3_write 23 = .ok (.aload 5, 2) := by decide +kernel
theorem dX3_write_25 : decode cX3_write 25 = .ok (.invokevirtual 167, 3) := by decide +kernel
theorem dX3_write_28 : decode cX3_write 28 = .ok (.ifCond .eq 11, 3) := by decide +kernel
theorem dX3_write_31 : decode cX3_write 31 = .ok (.aload_n 0, 1) := by decide +kernel
theorem dX3_write_32 : decode cX3_write 32 = .ok (.ldc 171, 2) := by decide +kernel
theorem dX3_write_34 : decode cX3_write 34 = .ok (.invokevirtual 49, 3) := by decide +kernel
theorem dX3_write_37 : decode cX3_write 37 = .ok (.i2l, 1) := by decide +kernel
theorem dX3_write_38 : decode cX3_write 38 = .ok (.lreturn, 1) := by decide +kernel
theorem dX3_write_39 : decode cX3_write 39 = .ok (.iload_n 2, 1) := by decide +kernel
theorem dX3_write_40 : decode cX3_write 40 = .ok (.iconst 0, 1) := by decide +kernel
theorem dX3_write_41 : decode cX3_write 41 = .ok (.aload 5, 2) := by decide +kernel
theorem dX3_write_43 : decode cX3_write 43 = .ok (.getfield 164, 3) := by decide +kernel
theorem dX3_write_46 : decode cX3_write 46 = .ok (.iconst 1, 1) := by decide +kernel
theorem dX3_write_47 : decode cX3_write 47 = .ok (.isub, 1) := by decide +kernel
theorem dX3_write_48 : decode cX3_write 48 = .ok (.invokestatic 44, 3) := by decide +kernel
theorem dX3_write_51 : decode cX3_write 51 = .ok (.ifCond .ne 11, 3) := by decide +kernel
theorem dX3_write_54 : decode cX3_write 54 = .ok (.aload_n 0, 1) := by decide +kernel
theorem dX3_write_55 : decode cX3_write 55 = .ok (.ldc 48, 2) := by decide +kernel
theorem dX3_write_57 : decode cX3_write 57 = .ok (.invokevirtual 49, 3) := by decide +kernel
theorem dX3_write_60 : decode cX3_write 60 = .ok (.i2l, 1) := by decide +kernel
theorem dX3_write_61 : decode cX3_write 61 = .ok (.lreturn, 1) := by decide +kernel
theorem dX3_write_62 : decode cX3_write 62 = .ok (.aload 5, 2) := by decide +kernel
theorem dX3_write_64 : decode cX3_write 64 = .ok (.getfield 172, 3) := by decide +kernel
theorem dX3_write_67 : decode cX3_write 67 = .ok (.iload_n 2, 1) := by decide +kernel
theorem dX3_write_68 : decode cX3_write 68 = .ok (.laload, 1) := by decide +kernel
theorem dX3_write_69 : decode cX3_write 69 = .ok (.lstore 6, 2) := by decide +kernel
theorem dX3_write_71 : decode cX3_write 71 = .ok (.aload 5, 2) := by decide +kernel
theorem dX3_write_73 : decode cX3_write 73 = .ok (.iload_n 2, 1) := by decide +kernel
theorem dX3_write_74 : decode cX3_write 74 = .ok (.lload_n 3, 1) := by decide +kernel
theorem dX3_write_75 : decode cX3_write 75 = .ok (.invokevirtual 176, 3) := by decide +kernel
theorem dX3_write_78 : decode cX3_write 78 = .ok (.lload 6, 2) := by decide +kernel
theorem dX3_write_80 : decode cX3_write 80 = .ok (.lreturn, 1) := by decide +kernel
theorem dX3_copy_0 : decode cX3_copy 0 = .ok (.iload_n 1, 1) := by decide +kernel
theorem dX3_copy_1 : decode cX3_copy 1 = .ok (.invokestatic 157, 3) := by decide +kernel
theorem dX3_copy_4 : decode cX3_copy 4 = .ok (.ifCond .eq 10, 3) := by decide +kernel
theorem dX3_copy_7 : decode cX3_copy 7 = .ok (.iload_n 3, 1) := by decide +kernel
theorem dX3_copy_8 : decode cX3_copy 8 = .ok (.invokestatic 157, 3) := by decide +kernel
theorem dX3_copy_11 : decode cX3_copy 11 = .ok (.ifCond .ne 10, 3) := by decide +kernel
theorem dX3_copy_14 : decode cX3_copy 14 = .ok (.aload_n 0, 1) := by decide +kernel
theorem dX3_copy_15 : decode cX3_copy 15 = .ok (.ldc 48, 2) := by decide +kernel
theorem dX3_copy_17 : decode cX3_copy 17 = .ok (.invokevirtual 49, 3) := by decide +kernel
theorem dX3_copy_20 : decode cX3_copy 20 = .ok (.ireturn, 1) := by decide +kernel
theorem dX3_copy_21 : decode cX3_copy 21 = .ok (.aload_n 0, 1) := by decide +kernel
theorem dX3_copy_22 : decode cX3_copy 22 = .ok (.getfield 35, 3) := by decide +kernel
theorem dX3_copy_25 : decode cX3_copy 25 = .ok (.iload_n 1, 1) := by decide +kernel
theorem dX3_copy_26 : decode cX3_copy 26 = .ok (.aaload, 1) := by decide +kernel
theorem dX3_copy_27 : decode cX3_copy 27 = .ok (.astore 6, 2) := by decide +kernel
theorem dX3_copy_29 : decode cX3_copy 29 = .ok (.aload_n 0, 1) := by decide +kernel
theorem dX3_copy_30 : decode cX3_copy 30 = .ok (.getfield 35, 3) := by decide +kernel
theorem dX3_copy_33 : decode cX3_copy 33 = .ok (.iload_n 3, 1) := by decide +kernel
theorem dX3_copy_34 : decode cX3_copy 34 = .ok (.aaload, 1) := by decide +kernel
theorem dX3_copy_35 : decode cX3_copy 35 = .ok (.astore 7, 2) := by decide +kernel
theorem dX3_copy_37 : decode cX3_copy 37 = .ok (.aload 6, 2) := by decide +kernel
theorem dX3_copy_39 : decode cX3_copy 39 = .ok (.invokevirtual 167, 3) := by decide +kernel
theorem dX3_copy_42 : decode cX3_copy 42 = .ok (.ifCond .ne 11, 3) := by decide +kernel
theorem dX3_copy_45 : decode cX3_copy 45 = .ok (.aload 7, 2) := by decide +kernel
theorem dX3_copy_47 : decode cX3_copy 47 = .ok (.invokevirtual 167, 3) := by decide +kernel
theorem dX3_copy_50 : decode cX3_copy 50 = .ok (.ifCond .eq 10, 3) := by decide +kernel
theorem dX3_copy_53 : decode cX3_copy 53 = .ok (.aload_n 0, 1) := by decide +kernel
theorem dX3_copy_54 : decode cX3_copy 54 = .ok (.ldc 171, 2) := by decide +kernel
theorem dX3_copy_56 : decode cX3_copy 56 = .ok (.invokevirtual 49, 3) := by decide +kernel
theorem dX3_copy_59 : decode cX3_copy 59 = .ok (.ireturn, 1) := by decide +kernel
theorem dX3_copy_60 : decode cX3_copy 60 = .ok (.aload 6, 2) := by decide +kernel
theorem dX3_copy_62 : decode cX3_copy 62 = .ok (.getfield 180, 3) := by decide +kernel
theorem dX3_copy_65 : decode cX3_copy 65 = .ok (.aload 7, 2) := by decide +kernel
theorem dX3_copy_67 : decode cX3_copy 67 = .ok (.getfield 180, 3) := by decide +kernel
theorem dX3_copy_70 : decode cX3_copy 70 = .ok (.if_icmp .eq 10, 3) := by decide +kernel
theorem dX3_copy_73 : decode cX3_copy 73 = .ok (.aload_n 0, 1) := by decide +kernel
theorem dX3_copy_74 : decode cX3_copy 74 = .ok (.ldc 114, 2) := by decide +kernel
theorem dX3_copy_76 : decode cX3_copy 76 = .ok (.invokevirtual 49, 3) := by decide +kernel
theorem dX3_copy_79 : decode cX3_copy 79 = .ok (.ireturn, 1) := by decide +kernel
theorem dX3_copy_80 : decode cX3_copy 80 = .ok (.aload 6, 2) := by decide +kernel
theorem dX3_copy_82 : decode cX3_copy 82 = .ok (.iload_n 2, 1) := by decide +kernel
theorem dX3_copy_83 : decode cX3_copy 83 = .ok (.iload 5, 2) := by decide +kernel
theorem dX3_copy_85 : decode cX3_copy 85 = .ok (.invokevirtual 183, 3) := by decide +kernel
theorem dX3_copy_88 : decode cX3_copy 88 = .ok (.ifCond .eq 15, 3) := by decide +kernel
theorem dX3_copy_91 : decode cX3_copy 91 = .ok (.aload 7, 2) := by decide +kernel
theorem dX3_copy_93 : decode cX3_copy 93 = .ok (.iload 4, 2) := by decide +kernel
theorem dX3_copy_95 : decode cX3_copy 95 = .ok (.iload 5, 2) := by decide +kernel
theorem dX3_copy_97 : decode cX3_copy 97 = .ok (.invokevirtual 183, 3) := by decide +kernel
theorem dX3_copy_100 : decode cX3_copy 100 = .ok (.ifCond .ne 10, 3) := by decide +kernel
theorem dX3_copy_103 : decode cX3_copy 103 = .ok (.aload_n 0, 1) := by decide +kernel
theorem dX3_copy_104 : decode cX3_copy 104 = .ok (.ldc 48, 2) := by decide +kernel
theorem dX3_copy_106 : decode cX3_copy 106 = .ok (.invokevirtual 49, 3) := by decide +kernel
theorem dX3_copy_109 : decode cX3_copy 109 = .ok (.ireturn, 1) := by decide +kernel
theorem dX3_copy_110 : decode cX3_copy 110 = .ok (.aload 6, 2) := by decide +kernel
theorem dX3_copy_112 : decode cX3_copy 112 = .ok (.getfield 172, 3) := by decide +kernel
theorem dX3_copy_115 : decode cX3_copy 115 = .ok (.iload_n 2, 1) := by decide +kernel
theorem dX3_copy_116 : decode cX3_copy 116 = .ok (.aload 7, 2) := by decide +kernel
theorem dX3_copy_118 : decode cX3_copy 118 = .ok (.getfield 172, 3) := by decide +kernel
theorem dX3_copy_121 : decode cX3_copy 121 = .ok (.iload 4, 2) := by decide +kernel
theorem dX3_copy_123 : decode cX3_copy 123 = .ok (.iload 5, 2) := by decide +kernel
theorem dX3_copy_125 : decode cX3_copy 125 = .ok (.invokestatic 186, 3) := by decide +kernel
theorem dX3_copy_128 : decode cX3_copy 128 = .ok (.iload 5, 2) := by decide +kernel
theorem dX3_copy_130 : decode cX3_copy 130 = .ok (.ireturn, 1) := by decide +kernel
theorem dX3_lays_0 : decode cX3_lays 0 = .ok (.iload_n 1, 1) := by decide +kernel
theorem dX3_lays_1 : decode cX3_lays 1 = .ok (.invokestatic 157, 3) := by decide +kernel
theorem dX3_lays_4 : decode cX3_lays 4 = .ok (.ifCond .ne 10, 3) := by decide +kernel
theorem dX3_lays_7 : decode cX3_lays 7 = .ok (.aload_n 0, 1) := by decide +kernel
theorem dX3_lays_8 : decode cX3_lays 8 = .ok (.ldc 48, 2) := by decide +kernel
theorem dX3_lays_10 : decode cX3_lays 10 = .ok (.invokevirtual 49, 3) := by decide +kernel
theorem dX3_lays_13 : decode cX3_lays 13 = .ok (.ireturn, 1) := by decide +kernel
theorem dX3_lays_14 : decode cX3_lays 14 = .ok (.aload_n 0, 1) := by decide +kernel
theorem dX3_lays_15 : decode cX3_lays 15 = .ok (.getfield 35, 3) := by decide +kernel
theorem dX3_lays_18 : decode cX3_lays 18 = .ok (.iload_n 1, 1) := by decide +kernel
theorem dX3_lays_19 : decode cX3_lays 19 = .ok (.aaload, 1) := by decide +kernel
theorem dX3_lays_20 : decode cX3_lays 20 = .ok (.astore_n 2, 1) := by decide +kernel
theorem dX3_lays_21 : decode cX3_lays 21 = .ok (.aload_n 2, 1) := by decide +kernel
theorem dX3_lays_22 : decode cX3_lays 22 = .ok (.invokevirtual 167, 3) := by decide +kernel
theorem dX3_lays_25 : decode cX3_lays 25 = .ok (.ifCond .eq 10, 3) := by decide +kernel
theorem dX3_lays_28 : decode cX3_lays 28 = .ok (.aload_n 0, 1) := by decide +kernel
theorem dX3_lays_29 : decode cX3_lays 29 = .ok (.ldc 171, 2) := by decide +kernel
theorem dX3_lays_31 : decode cX3_lays 31 = .ok (.invokevirtual 49, 3) := by decide +kernel
theorem dX3_lays_34 : decode cX3_lays 34 = .ok (.ireturn, 1) := by decide +kernel
theorem dX3_lays_35 : decode cX3_lays 35 = .ok (.iconst 0, 1) := by decide +kernel
theorem dX3_lays_36 : decode cX3_lays 36 = .ok (.istore_n 3, 1) := by decide +kernel
theorem dX3_lays_37 : decode cX3_lays 37 = .ok (.iconst 0, 1) := by decide +kernel
theorem dX3_lays_38 : decode cX3_lays 38 = .ok (.istore 4, 2) := by decide +kernel
theorem dX3_lays_40 : decode cX3_lays 40 = .ok (.iload 4, 2) := by decide +kernel
theorem dX3_lays_42 : decode cX3_lays 42 = .ok (.aload_n 2, 1) := by decide +kernel
theorem dX3_lays_43 : decode cX3_lays 43 = .ok (.getfield 164, 3) := by decide +kernel
theorem dX3_lays_46 : decode cX3_lays 46 = .ok (.if_icmp .ge 68, 3) := by decide +kernel
theorem dX3_lays_49 : decode cX3_lays 49 = .ok (.iload 4, 2) := by decide +kernel
theorem dX3_lays_51 : decode cX3_lays 51 = .ok (.aload_n 0, 1) := by decide +kernel
theorem dX3_lays_52 : decode cX3_lays 52 = .ok (.getfield 12, 3) := by decide +kernel
theorem dX3_lays_55 : decode cX3_lays 55 = .ok (.getfield 76, 3) := by decide +kernel
theorem dX3_lays_58 : decode cX3_lays 58 = .ok (.if_icmp .ge 56, 3) := by decide +kernel
theorem dX3_lays_61 : decode cX3_lays 61 = .ok (.aload_n 2, 1) := by decide +kernel
theorem dX3_lays_62 : decode cX3_lays 62 = .ok (.getfield 172, 3) := by decide +kernel
theorem dX3_lays_65 : decode cX3_lays 65 = .ok (.iload 4, 2) := by decide +kernel
theorem dX3_lays_67 : decode cX3_lays 67 = .ok (.laload, 1) := by decide +kernel
theorem dX3_lays_68 : decode cX3_lays 68 = .ok (.lconst 0, 1) := by decide +kernel
theorem dX3_lays_69 : decode cX3_lays 69 = .ok (.lcmp, 1) := by decide +kernel
theorem dX3_lays_70 : decode cX3_lays 70 = .ok (.ifCond .lt 38, 3) := by decide +kernel
theorem dX3_lays_73 : decode cX3_lays 73 = .ok (.aload_n 2, 1) := by decide +kernel
theorem dX3_lays_74 : decode cX3_lays 74 = .ok (.getfield 172, 3) := by decide +kernel
theorem dX3_lays_77 : decode cX3_lays 77 = .ok (.iload 4, 2) := by decide +kernel
theorem dX3_lays_79 : decode cX3_lays 79 = .ok (.laload, 1) := by decide +kernel
theorem dX3_lays_80 : decode cX3_lays 80 = .ok (.ldc2_w 192, 3) := by decide +kernel
theorem dX3_lays_83 : decode cX3_lays 83 = .ok (.lcmp, 1) := by decide +kernel
theorem dX3_lays_84 : decode cX3_lays 84 = .ok (.ifCond .gt 24, 3) := by decide +kernel
theorem dX3_lays_87 : decode cX3_lays 87 = .ok (.aload_n 0, 1) := by decide +kernel
theorem dX3_lays_88 : decode cX3_lays 88 = .ok (.getfield 12, 3) := by decide +kernel
theorem dX3_lays_91 : decode cX3_lays 91 = .ok (.getfield 91, 3) := by decide +kernel
theorem dX3_lays_94 : decode cX3_lays 94 = .ok (.iload 4, 2) := by decide +kernel
theorem dX3_lays_96 : decode cX3_lays 96 = .ok (.aload_n 2, 1) := by decide +kernel
theorem dX3_lays_97 : decode cX3_lays 97 = .ok (.getfield 172, 3) := by decide +kernel
theorem dX3_lays_100 : decode cX3_lays 100 = .ok (.iload 4, 2) := by decide +kernel
theorem dX3_lays_102 : decode cX3_lays 102 = .ok (.laload, 1) := by decide +kernel
theorem dX3_lays_103 : decode cX3_lays 103 = .ok (.l2i, 1) := by decide +kernel
theorem dX3_lays_104 : decode cX3_lays 104 = .ok (.iastore, 1) := by decide +kernel
theorem dX3_lays_105 : decode cX3_lays 105 = .ok (.iinc 3 1, 3) := by decide +kernel
theorem dX3_lays_108 : decode cX3_lays 108 = .ok (.iinc 4 1, 3) := by decide +kernel
theorem dX3_lays_111 : decode cX3_lays 111 = .ok (.goto (-71), 3) := by decide +kernel
theorem dX3_lays_114 : decode cX3_lays 114 = .ok (.iload_n 3, 1) := by decide +kernel
theorem dX3_lays_115 : decode cX3_lays 115 = .ok (.ireturn, 1) := by decide +kernel
theorem dX3_book_0 : decode cX3_book 0 = .ok (.aload_n 0, 1) := by decide +kernel
theorem dX3_book_1 : decode cX3_book 1 = .ok (.iload_n 1, 1) := by decide +kernel
theorem dX3_book_2 : decode cX3_book 2 = .ok (.iload_n 2, 1) := by decide +kernel
theorem dX3_book_3 : decode cX3_book 3 = .ok (.invokevirtual 194, 3) := by decide +kernel
theorem dX3_book_6 : decode cX3_book 6 = .ok (.istore_n 3, 1) := by decide +kernel
theorem dX3_book_7 : decode cX3_book 7 = .ok (.iload_n 3, 1) := by decide +kernel
theorem dX3_book_8 : decode cX3_book 8 = .ok (.ifCond .eq 9, 3) := by decide +kernel
theorem dX3_book_11 : decode cX3_book 11 = .ok (.aload_n 0, 1) := by decide +kernel
theorem dX3_book_12 : decode cX3_book 12 = .ok (.iload_n 3, 1) := by decide +kernel
theorem dX3_book_13 : decode cX3_book 13 = .ok (.invokevirtual 49, 3) := by decide +kernel
theorem dX3_book_16 : decode cX3_book 16 = .ok (.ireturn, 1) := by decide +kernel
theorem dX3_book_17 : decode cX3_book 17 = .ok (.aload_n 0, 1) := by decide +kernel
theorem dX3_book_18 : decode cX3_book 18 = .ok (.getfield 35, 3) := by decide +kernel
theorem dX3_book_21 : decode cX3_book 21 = .ok (.iload_n 1, 1) := by decide +kernel
theorem dX3_book_22 : decode cX3_book 22 = .ok (.aaload, 1) := by decide +kernel
theorem dX3_book_23 : decode cX3_book 23 = .ok (.astore 4, 2) := by decide +kernel
theorem dX3_book_25 : decode cX3_book 25 = .ok (.aload_n 0, 1) := by decide +kernel
theorem dX3_book_26 : decode cX3_book 26 = .ok (.invokevirtual 124, 3) := by decide +kernel
theorem dX3_book_29 : decode cX3_book 29 = .ok (.iconst 0, 1) := by decide +kernel
theorem dX3_book_30 : decode cX3_book 30 = .ok (.istore 5, 2) := by decide +kernel
theorem dX3_book_32 : decode cX3_book 32 = .ok (.iload 5, 2) := by decide +kernel
theorem dX3_book_34 : decode cX3_book 34 = .ok (.aload 4, 2) := by decide +kernel
theorem dX3_book_36 : decode cX3_book 36 = .ok (.getfield 164, 3) := by decide +kernel
theorem dX3_book_39 : decode cX3_book 39 = .ok (.if_icmp .ge 32, 3) := by decide +kernel
theorem dX3_book_42 : decode cX3_book 42 = .ok (.aload 4, 2) := by decide +kernel
theorem dX3_book_44 : decode cX3_book 44 = .ok (.iload 5, 2) := by decide +kernel
theorem dX3_book_46 : decode cX3_book 46 = .ok (.aload_n 0, 1) := by decide +kernel
theorem dX3_book_47 : decode cX3_book 47 = .ok (.getfield 16, 3) := by decide +kernel
theorem dX3_book_50 : decode cX3_book 50 = .ok (.iload_n 2, 1) := by decide +kernel
theorem dX3_book_51 : decode cX3_book 51 = .ok (.invokevirtual 100, 3) := by decide +kernel
theorem dX3_book_54 : decode cX3_book 54 = .ok (.i2l, 1) := by decide +kernel
theorem dX3_book_55 : decode cX3_book 55 = .ok (.invokevirtual 176, 3) := by decide +kernel
theorem dX3_book_58 : decode cX3_book 58 = .ok (.aload_n 0, 1) := by decide +kernel
theorem dX3_book_59 : decode cX3_book 59 = .ok (.getfield 16, 3) := by decide +kernel
theorem dX3_book_62 : decode cX3_book 62 = .ok (.invokevirtual 133, 3) := by decide +kernel
theorem dX3_book_65 : decode cX3_book 65 = .ok (.iinc 5 1, 3) := by decide +kernel
theorem dX3_book_68 : decode cX3_book 68 = .ok (.goto (-36), 3) := by decide +kernel
theorem dX3_book_71 : decode cX3_book 71 = .ok (.aload 4, 2) := by decide +kernel
theorem dX3_book_73 : decode cX3_book 73 = .ok (.getfield 164, 3) := by decide +kernel
theorem dX3_book_76 : decode cX3_book 76 = .ok (.ireturn, 1) := by decide +kernel
theorem dX3_read_0 : decode cX3_read 0 = .ok (.aload_n 0, 1) := by decide +kernel
theorem dX3_read_1 : decode cX3_read 1 = .ok (.iload_n 1, 1) := by decide +kernel
theorem dX3_read_2 : decode cX3_read 2 = .ok (.iload_n 2, 1) := by decide +kernel
theorem dX3_read_3 : decode cX3_read 3 = .ok (.invokevirtual 194, 3) := by decide +kernel
theorem dX3_read_6 : decode cX3_read 6 = .ok (.istore_n 3, 1) := by decide +kernel
theorem dX3_read_7 : decode cX3_read 7 = .ok (.iload_n 3, 1) := by decide +kernel
theorem dX3_read_8 : decode cX3_read 8 = .ok (.ifCond .eq 9, 3) := by decide +kernel
theorem dX3_read_11 : decode cX3_read 11 = .ok (.aload_n 0, 1) := by decide +kernel
theorem dX3_read_12 : decode cX3_read 12 = .ok (.iload_n 3, 1) := by decide +kernel
theorem dX3_read_13 : decode cX3_read 13 = .ok (.invokevirtual 49, 3) := by decide +kernel
theorem dX3_read_16 : decode cX3_read 16 = .ok (.ireturn, 1) := by decide +kernel
theorem dX3_read_17 : decode cX3_read 17 = .ok (.iconst 0, 1) := by decide +kernel
theorem dX3_read_18 : decode cX3_read 18 = .ok (.istore 4, 2) := by decide +kernel
theorem dX3_read_20 : decode cX3_read 20 = .ok (.iconst 0, 1) := by decide +kernel
theorem dX3_read_21 : decode cX3_read 21 = .ok (.istore 5, 2) := by decide +kernel
theorem dX3_read_23 : decode cX3_read 23 = .ok (.iload 5, 2) := by decide +kernel
theorem dX3_read_25 : decode cX3_read 25 = .ok (.bipush 6, 2) := by decide +kernel
theorem dX3_read_27 : decode cX3_read 27 = .ok (.if_icmp .ge 68, 3) := by decide +kernel
theorem dX3_read_30 : decode cX3_read 30 = .ok (.iconst 0, 1) := by decide +kernel
theorem dX3_read_31 : decode cX3_read 31 = .ok (.istore 6, 2) := by decide +kernel
theorem dX3_read_33 : decode cX3_read 33 = .ok (.iload 6, 2) := by decide +kernel
theorem dX3_read_35 : decode cX3_read 35 = .ok (.bipush 99, 2) := by decide +kernel
theorem dX3_read_37 : decode cX3_read 37 = .ok (.if_icmp .gt 52, 3) := by decide +kernel
theorem dX3_read_40 : decode cX3_read 40 = .ok (.aload_n 0, 1) := by decide +kernel
theorem dX3_read_41 : decode cX3_read 41 = .ok (.invokevirtual 124, 3) := by decide +kernel
theorem dX3_read_44 : decode cX3_read 44 = .ok (.aload_n 0, 1) := by decide +kernel
theorem dX3_read_45 : decode cX3_read 45 = .ok (.getfield 16, 3) := by decide +kernel
theorem dX3_read_48 : decode cX3_read 48 = .ok (.getfield 88, 3) := by decide +kernel
theorem dX3_read_51 : decode cX3_read 51 = .ok (.iload_n 2, 1) := by decide +kernel
theorem dX3_read_52 : decode cX3_read 52 = .ok (.iload 5, 2) := by decide +kernel
theorem dX3_read_54 : decode cX3_read 54 = .ok (.iastore, 1) := by decide +kernel
theorem dX3_read_55 : decode cX3_read 55 = .ok (.aload_n 0, 1) := by decide +kernel
theorem dX3_read_56 : decode cX3_read 56 = .ok (.getfield 16, 3) := by decide +kernel
theorem dX3_read_59 : decode cX3_read 59 = .ok (.getfield 91, 3) := by decide +kernel
theorem dX3_read_62 : decode cX3_read 62 = .ok (.iload_n 2, 1) := by decide +kernel
theorem dX3_read_63 : decode cX3_read 63 = .ok (.iload 6, 2) := by decide +kernel
theorem dX3_read_65 : decode cX3_read 65 = .ok (.iastore, 1) := by decide +kernel
theorem dX3_read_66 : decode cX3_read 66 = .ok (.aload_n 0, 1) := by decide +kernel
theorem dX3_read_67 : decode cX3_read 67 = .ok (.aload_n 0, 1) := by decide +kernel
theorem dX3_read_68 : decode cX3_read 68 = .ok (.getfield 35, 3) := by decide +kernel
theorem dX3_read_71 : decode cX3_read 71 = .ok (.iload_n 1, 1) := by decide +kernel
theorem dX3_read_72 : decode cX3_read 72 = .ok (.aaload, 1) := by decide +kernel
theorem dX3_read_73 : decode cX3_read 73 = .ok (.iload_n 2, 1) := by decide +kernel
theorem dX3_read_74 : decode cX3_read 74 = .ok (.invokevirtual 197, 3) := by decide +kernel
theorem dX3_read_77 : decode cX3_read 77 = .ok (.ifCond .eq 6, 3) := by decide +kernel
theorem dX3_read_80 : decode cX3_read 80 = .ok (.iinc 4 1, 3) := by decide +kernel
theorem dX3_read_83 : decode cX3_read 83 = .ok (.iinc 6 1, 3) := by decide +kernel
theorem dX3_read_86 : decode cX3_read 86 = .ok (.goto (-53), 3) := by decide +kernel
theorem dX3_read_89 : decode cX3_read 89 = .ok (.iinc 5 1, 3) := by decide +kernel
theorem dX3_read_92 : decode cX3_read 92 = .ok (.goto (-69), 3) := by decide +kernel
theorem dX3_read_95 : decode cX3_read 95 = .ok (.iload 4, 2) := by decide +kernel
theorem dX3_read_97 : decode cX3_read 97 = .ok (.ireturn, 1) := by decide +kernel
theorem dX3_image_0 : decode cX3_image 0 = .ok (.aload_n 0, 1) := by decide +kernel
theorem dX3_image_1 : decode cX3_image 1 = .ok (.getfield 19, 3) := by decide +kernel
theorem dX3_image_4 : decode cX3_image 4 = .ok (.aload_n 0, 1) := by decide +kernel
theorem dX3_image_5 : decode cX3_image 5 = .ok (.getfield 12, 3) := by decide +kernel
theorem dX3_image_8 : decode cX3_image 8 = .ok (.invokevirtual 153, 3) := by decide +kernel
theorem dX3_image_11 : decode cX3_image 11 = .ok (.aload_n 0, 1) := by decide +kernel
theorem dX3_image_12 : decode cX3_image 12 = .ok (.iconst 1, 1) := by decide +kernel
theorem dX3_image_13 : decode cX3_image 13 = .ok (.putfield 22, 3) := by decide +kernel
theorem dX3_image_16 : decode cX3_image 16 = .ok (.iconst 1, 1) := by decide +kernel
theorem dX3_image_17 : decode cX3_image 17 = .ok (.ireturn, 1) := by decide +kernel
theorem dX3_undo_0 : decode cX3_undo 0 = .ok (.aload_n 0, 1) := by decide +kernel
theorem dX3_undo_1 : decode cX3_undo 1 = .ok (.getfield 22, 3) := by decide +kernel
theorem dX3_undo_4 : decode cX3_undo 4 = .ok (.ifCond .ne 10, 3) := by decide +kernel
theorem dX3_undo_7 : decode cX3_undo 7 = .ok (.aload_n 0, 1) := by decide +kernel
theorem dX3_undo_8 : decode cX3_undo 8 = .ok (.ldc 136, 2) := by decide +kernel
theorem dX3_undo_10 : decode cX3_undo 10 = .ok (.invokevirtual 49, 3) := by decide +kernel
theorem dX3_undo_13 : decode cX3_undo 13 = .ok (.ireturn, 1) := by decide +kernel
theorem dX3_undo_14 : decode cX3_undo 14 = .ok (.aload_n 0, 1) := by decide +kernel
theorem dX3_undo_15 : decode cX3_undo 15 = .ok (.getfield 12, 3) := by decide +kernel
theorem dX3_undo_18 : decode cX3_undo 18 = .ok (.aload_n 0, 1) := by decide +kernel
theorem dX3_undo_19 : decode cX3_undo 19 = .ok (.getfield 19, 3) := by decide +kernel
theorem dX3_undo_22 : decode cX3_undo 22 = .ok (.invokevirtual 153, 3) := by decide +kernel
theorem dX3_undo_25 : decode cX3_undo 25 = .ok (.aload_n 0, 1) := by decide +kernel
theorem dX3_undo_26 : decode cX3_undo 26 = .ok (.getfield 12, 3) := by decide +kernel
theorem dX3_undo_29 : decode cX3_undo 29 = .ok (.getfield 76, 3) := by decide +kernel
theorem dX3_undo_32 : decode cX3_undo 32 = .ok (.ireturn, 1) := by decide +kernel
theorem dX3_tear_0 : decode cX3_tear 0 = .ok (.aload_n 0, 1) := by decide +kernel
theorem dX3_tear_1 : decode cX3_tear 1 = .ok (.getfield 22, 3) := by decide +kernel
theorem dX3_tear_4 : decode cX3_tear 4 = .ok (.ifCond .eq 7, 3) := by decide +kernel
theorem dX3_tear_7 : decode cX3_tear 7 = .ok (.iconst 1, 1) := by decide +kernel
theorem dX3_tear_8 : decode cX3_tear 8 = .ok (.goto 4, 3) := by decide +kernel
theorem dX3_tear_11 : decode cX3_tear 11 = .ok (.iconst 0, 1) := by decide +kernel
theorem dX3_tear_12 : decode cX3_tear 12 = .ok (.istore_n 1, 1) := by decide +kernel
theorem dX3_tear_13 : decode cX3_tear 13 = .ok (.aload_n 0, 1) := by decide +kernel
theorem dX3_tear_14 : decode cX3_tear 14 = .ok (.iconst 0, 1) := by decide +kernel
theorem dX3_tear_15 : decode cX3_tear 15 = .ok (.putfield 22, 3) := by decide +kernel
theorem dX3_tear_18 : decode cX3_tear 18 = .ok (.iload_n 1, 1) := by decide +kernel
theorem dX3_tear_19 : decode cX3_tear 19 = .ok (.ireturn, 1) := by decide +kernel
theorem dX3_count_0 : decode cX3_count 0 = .ok (.iload_n 1, 1) := by decide +kernel
theorem dX3_count_1 : decode cX3_count 1 = .ok (.tableswitch 63 0 3 #[31, 39, 47, 55], 31) := by decide +kernel
theorem dX3_count_32 : decode cX3_count 32 = .ok (.aload_n 0, 1) := by decide +kernel
theorem dX3_count_33 : decode cX3_count 33 = .ok (.getfield 12, 3) := by decide +kernel
theorem dX3_count_36 : decode cX3_count 36 = .ok (.getfield 76, 3) := by decide +kernel
theorem dX3_count_39 : decode cX3_count 39 = .ok (.ireturn, 1) := by decide +kernel
theorem dX3_count_40 : decode cX3_count 40 = .ok (.aload_n 0, 1) := by decide +kernel
theorem dX3_count_41 : decode cX3_count 41 = .ok (.getfield 29, 3) := by decide +kernel
theorem dX3_count_44 : decode cX3_count 44 = .ok (.getfield 142, 3) := by decide +kernel
theorem dX3_count_47 : decode cX3_count 47 = .ok (.ireturn, 1) := by decide +kernel
theorem dX3_count_48 : decode cX3_count 48 = .ok (.aload_n 0, 1) := by decide +kernel
theorem dX3_count_49 : decode cX3_count 49 = .ok (.getfield 12, 3) := by decide +kernel
theorem dX3_count_52 : decode cX3_count 52 = .ok (.invokevirtual 201, 3) := by decide +kernel
theorem dX3_count_55 : decode cX3_count 55 = .ok (.ireturn, 1) := by decide +kernel
theorem dX3_count_56 : decode cX3_count 56 = .ok (.aload_n 0, 1) := by decide +kernel
theorem dX3_count_57 : decode cX3_count 57 = .ok (.getfield 12, 3) := by decide +kernel
theorem dX3_count_60 : decode cX3_count 60 = .ok (.invokevirtual 73, 3) := by decide +kernel
theorem dX3_count_63 : decode cX3_count 63 = .ok (.ireturn, 1) := by decide +kernel
theorem dX3_count_64 : decode cX3_count 64 = .ok (.aload_n 0, 1) := by decide +kernel
theorem dX3_count_65 : decode cX3_count 65 = .ok (.ldc 48, 2) := by decide +kernel
theorem dX3_count_67 : decode cX3_count 67 = .ok (.invokevirtual 49, 3) := by decide +kernel
theorem dX3_count_70 : decode cX3_count 70 = .ok (.ireturn, 1) := by decide +kernel
theorem dX3_status_0 : decode cX3_status 0 = .ok (.iload_n 1, 1) := by decide +kernel
theorem dX3_status_1 : decode cX3_status 1 = .ok (.iconst (-1), 1) := by decide +kernel
theorem dX3_status_2 : decode cX3_status 2 = .ok (.bipush 6, 2) := by decide +kernel
theorem dX3_status_4 : decode cX3_status 4 = .ok (.invokestatic 44, 3) := by decide +kernel
theorem dX3_status_7 : decode cX3_status 7 = .ok (.ifCond .ne 10, 3) := by decide +kernel
theorem dX3_status_10 : decode cX3_status 10 = .ok (.aload_n 0, 1) := by decide +kernel
theorem dX3_status_11 : decode cX3_status 11 = .ok (.ldc 48, 2) := by decide +kernel
theorem dX3_status_13 : decode cX3_status 13 = .ok (.invokevirtual 49, 3) := by decide +kernel
theorem dX3_status_16 : decode cX3_status 16 = .ok (.ireturn, 1) := by decide +kernel
theorem dX3_status_17 : decode cX3_status 17 = .ok (.iload_n 1, 1) := by decide +kernel
theorem dX3_status_18 : decode cX3_status 18 = .ok (.ifCond .lt 10, 3) := by decide +kernel
theorem dX3_status_21 : decode cX3_status 21 = .ok (.aload_n 0, 1) := by decide +kernel
theorem dX3_status_22 : decode cX3_status 22 = .ok (.getfield 39, 3) := by decide +kernel
theorem dX3_status_25 : decode cX3_status 25 = .ok (.iload_n 1, 1) := by decide +kernel
theorem dX3_status_26 : decode cX3_status 26 = .ok (.iaload, 1) := by decide +kernel
theorem dX3_status_27 : decode cX3_status 27 = .ok (.ireturn, 1) := by decide +kernel
theorem dX3_status_28 : decode cX3_status 28 = .ok (.iconst 0, 1) := by decide +kernel
theorem dX3_status_29 : decode cX3_status 29 = .ok (.istore_n 2, 1) := by decide +kernel
theorem dX3_status_30 : decode cX3_status 30 = .ok (.iconst 0, 1) := by decide +kernel
theorem dX3_status_31 : decode cX3_status 31 = .ok (.istore_n 3, 1) := by decide +kernel
theorem dX3_status_32 : decode cX3_status 32 = .ok (.iload_n 3, 1) := by decide +kernel
theorem dX3_status_33 : decode cX3_status 33 = .ok (.bipush 7, 2) := by decide +kernel
theorem dX3_status_35 : decode cX3_status 35 = .ok (.if_icmp .ge 18, 3) := by decide +kernel
theorem dX3_status_38 : decode cX3_status 38 = .ok (.iload_n 2, 1) := by decide +kernel
theorem dX3_status_39 : decode cX3_status 39 = .ok (.aload_n 0, 1) := by decide +kernel
theorem dX3_status_40 : decode cX3_status 40 = .ok (.getfield 39, 3) := by decide +kernel
theorem dX3_status_43 : decode cX3_status 43 = .ok (.iload_n 3, 1) := by decide +kernel
theorem dX3_status_44 : decode cX3_status 44 = .ok (.iaload, 1) := by decide +kernel
theorem dX3_status_45 : decode cX3_status 45 = .ok (.iadd, 1) := by decide +kernel
theorem dX3_status_46 : decode cX3_status 46 = .ok (.istore_n 2, 1) := by decide +kernel
theorem dX3_status_47 : decode cX3_status 47 = .ok (.iinc 3 1, 3) := by decide +kernel
theorem dX3_status_50 : decode cX3_status 50 = .ok (.goto (-18), 3) := by decide +kernel
theorem dX3_status_53 : decode cX3_status 53 = .ok (.iload_n 2, 1) := by decide +kernel
theorem dX3_status_54 : decode cX3_status 54 = .ok (.ireturn, 1) := by decide +kernel
theorem dX3_finding_0 : decode cX3_finding 0 = .ok (.ldc 48, 2) := by decide +kernel
theorem dX3_finding_2 : decode cX3_finding 2 = .ok (.iload_n 1, 1) := by decide +kernel
theorem dX3_finding_3 : decode cX3_finding 3 = .ok (.isub, 1) := by decide +kernel
theorem dX3_finding_4 : decode cX3_finding 4 = .ok (.istore_n 2, 1) := by decide +kernel
theorem dX3_finding_5 : decode cX3_finding 5 = .ok (.iload_n 2, 1) := by decide +kernel
theorem dX3_finding_6 : decode cX3_finding 6 = .ok (.ifCond .lt 19, 3) := by decide +kernel
theorem dX3_finding_9 : decode cX3_finding 9 = .ok (.iload_n 2, 1) := by decide +kernel
theorem dX3_finding_10 : decode cX3_finding 10 = .ok (.bipush 7, 2) := by decide +kernel
theorem dX3_finding_12 : decode cX3_finding 12 = .ok (.if_icmp .ge 13, 3) := by decide +kernel
theorem dX3_finding_15 : decode cX3_finding 15 = .ok (.aload_n 0, 1) := by decide +kernel
theorem dX3_finding_16 : decode cX3_finding 16 = .ok (.getfield 39, 3) := by decide +kernel
theorem dX3_finding_19 : decode cX3_finding 19 = .ok (.iload_n 2, 1) := by decide +kernel
theorem dX3_finding_20 : decode cX3_finding 20 = .ok (.dup2, 1) := by decide +kernel
theorem dX3_finding_21 : decode cX3_finding 21 = .ok (.iaload, 1) := by decide +kernel
theorem dX3_finding_22 : decode cX3_finding 22 = .ok (.iconst 1, 1) := by decide +kernel
theorem dX3_finding_23 : decode cX3_finding 23 = .ok (.iadd, 1) := by decide +kernel
theorem dX3_finding_24 : decode cX3_finding 24 = .ok (.iastore, 1) := by decide +kernel
theorem dX3_finding_25 : decode cX3_finding 25 = .ok (.iload_n 1, 1) := by decide +kernel
theorem dX3_finding_26 : decode cX3_finding 26 = .ok (.ireturn, 1) := by decide +kernel
theorem dX3_startTrial_0 : decode cX3_startTrial 0 = .ok (.aload_n 0, 1) := by decide +kernel
theorem dX3_startTrial_1 : decode cX3_startTrial 1 = .ok (.getfield 16, 3) := by decide +kernel
theorem dX3_startTrial_4 : decode cX3_startTrial 4 = .ok (.aload_n 0, 1) := by decide +kernel
theorem dX3_startTrial_5 : decode cX3_startTrial 5 = .ok (.getfield 12, 3) := by decide +kernel
theorem dX3_startTrial_8 : decode cX3_startTrial 8 = .ok (.invokevirtual 153, 3) := by decide +kernel
theorem dX3_startTrial_11 : decode cX3_startTrial 11 = .ok (.return_, 1) := by decide +kernel
theorem dX3_isThere_0 : decode cX3_isThere 0 = .ok (.iload_n 1, 1) := by decide +kernel
theorem dX3_isThere_1 : decode cX3_isThere 1 = .ok (.iconst 0, 1) := by decide +kernel
theorem dX3_isThere_2 : decode cX3_isThere 2 = .ok (.aload_n 0, 1) := by decide +kernel
theorem dX3_isThere_3 : decode cX3_isThere 3 = .ok (.getfield 12, 3) := by decide +kernel
theorem dX3_isThere_6 : decode cX3_isThere 6 = .ok (.getfield 76, 3) := by decide +kernel
theorem dX3_isThere_9 : decode cX3_isThere 9 = .ok (.iconst 1, 1) := by decide +kernel
theorem dX3_isThere_10 : decode cX3_isThere 10 = .ok (.isub, 1) := by decide +kernel
theorem dX3_isThere_11 : decode cX3_isThere 11 = .ok (.invokestatic 44, 3) := by decide +kernel
theorem dX3_isThere_14 : decode cX3_isThere 14 = .ok (.ireturn, 1) := by decide +kernel
theorem dX3_isSheet_0 : decode cX3_isSheet 0 = .ok (.iload_n 0, 1) := by decide +kernel
theorem dX3_isSheet_1 : decode cX3_isSheet 1 = .ok (.iconst 0, 1) := by decide +kernel
theorem dX3_isSheet_2 : decode cX3_isSheet 2 = .ok (.iconst 3, 1) := by decide +kernel
theorem dX3_isSheet_3 : decode cX3_isSheet 3 = .ok (.invokestatic 44, 3) := by decide +kernel
theorem dX3_isSheet_6 : decode cX3_isSheet 6 = .ok (.ireturn, 1) := by decide +kernel
theorem dX3_refusalOf_0 : decode cX3_refusalOf 0 = .ok (.iload_n 1, 1) := by decide +kernel
theorem dX3_refusalOf_1 : decode cX3_refusalOf 1 = .ok (.invokestatic 157, 3) := by decide +kernel
theorem dX3_refusalOf_4 : decode cX3_refusalOf 4 = .ok (.ifCond .ne 6, 3) := by decide +kernel
theorem dX3_refusalOf_7 : decode cX3_refusalOf 7 = .ok (.ldc 48, 2) := by decide +kernel
theorem dX3_refusalOf_9 : decode cX3_refusalOf 9 = .ok (.ireturn, 1) := by decide +kernel
theorem dX3_refusalOf_10 : decode cX3_refusalOf 10 = .ok (.aload_n 0, 1) := by decide +kernel
theorem dX3_refusalOf_11 : decode cX3_refusalOf 11 = .ok (.getfield 35, 3) := by decide +kernel
theorem dX3_refusalOf_14 : decode cX3_refusalOf 14 = .ok (.iload_n 1, 1) := by decide +kernel
theorem dX3_refusalOf_15 : decode cX3_refusalOf 15 = .ok (.aaload, 1) := by decide +kernel
theorem dX3_refusalOf_16 : decode cX3_refusalOf 16 = .ok (.invokevirtual 167, 3) := by decide +kernel
theorem dX3_refusalOf_19 : decode cX3_refusalOf 19 = .ok (.ifCond .eq 6, 3) := by decide +kernel
theorem dX3_refusalOf_22 : decode cX3_refusalOf 22 = .ok (.ldc 171, 2) := by decide +kernel
theorem dX3_refusalOf_24 : decode cX3_refusalOf 24 = .ok (.ireturn, 1) := by decide +kernel
theorem dX3_refusalOf_25 : decode cX3_refusalOf 25 = .ok (.aload_n 0, 1) := by decide +kernel
theorem dX3_refusalOf_26 : decode cX3_refusalOf 26 = .ok (.iload_n 2, 1) := by decide +kernel
theorem dX3_refusalOf_27 : decode cX3_refusalOf 27 = .ok (.invokevirtual 84, 3) := by decide +kernel
theorem dX3_refusalOf_30 : decode cX3_refusalOf 30 = .ok (.ifCond .eq 7, 3) := by decide +kernel
theorem dX3_refusalOf_33 : decode cX3_refusalOf 33 = .ok (.iconst 0, 1) := by decide +kernel
theorem dX3_refusalOf_34 : decode cX3_refusalOf 34 = .ok (.goto 5, 3) := by decide +kernel
theorem dX3_refusalOf_37 : decode cX3_refusalOf 37 = .ok (.ldc 48, 2) := by decide +kernel
theorem dX3_refusalOf_39 : decode cX3_refusalOf 39 = .ok (.ireturn, 1) := by decide +kernel
theorem dX3_trialDoesAs_0 : decode cX3_trialDoesAs 0 = .ok (.iconst 0, 1) := by decide +kernel
theorem dX3_trialDoesAs_1 : decode cX3_trialDoesAs 1 = .ok (.istore_n 3, 1) := by decide +kernel
theorem dX3_trialDoesAs_2 : decode cX3_trialDoesAs 2 = .ok (.iload_n 3, 1) := by decide +kernel
theorem dX3_trialDoesAs_3 : decode cX3_trialDoesAs 3 = .ok (.aload_n 1, 1) := by decide +kernel
theorem dX3_trialDoesAs_4 : decode cX3_trialDoesAs 4 = .ok (.getfield 164, 3) := by decide +kernel
theorem dX3_trialDoesAs_7 : decode cX3_trialDoesAs 7 = .ok (.if_icmp .ge 37, 3) := by decide +kernel
theorem dX3_trialDoesAs_10 : decode cX3_trialDoesAs 10 = .ok (.aload_n 0, 1) := by decide +kernel
theorem dX3_trialDoesAs_11 : decode cX3_trialDoesAs 11 = .ok (.getfield 16, 3) := by decide +kernel
theorem dX3_trialDoesAs_14 : decode cX3_trialDoesAs 14 = .ok (.iload_n 2, 1) := by decide +kernel
theorem dX3_trialDoesAs_15 : decode cX3_trialDoesAs 15 = .ok (.invokevirtual 100, 3) := by decide +kernel
theorem dX3_trialDoesAs_18 : decode cX3_trialDoesAs 18 = .ok (.i2l, 1) := by decide +kernel
theorem dX3_trialDoesAs_19 : decode cX3_trialDoesAs 19 = .ok (.aload_n 1, 1) := by decide +kernel
theorem dX3_trialDoesAs_20 : decode cX3_trialDoesAs 20 = .ok (.getfield 172, 3) := by decide +kernel
theorem dX3_trialDoesAs_23 : decode cX3_trialDoesAs 23 = .ok (.iload_n 3, 1) := by decide +kernel
theorem dX3_trialDoesAs_24 : decode cX3_trialDoesAs 24 = .ok (.laload, 1) := by decide +kernel
theorem dX3_trialDoesAs_25 : decode cX3_trialDoesAs 25 = .ok (.lcmp, 1) := by decide +kernel
theorem dX3_trialDoesAs_26 : decode cX3_trialDoesAs 26 = .ok (.ifCond .eq 5, 3) := by decide +kernel
theorem dX3_trialDoesAs_29 : decode cX3_trialDoesAs 29 = .ok (.iconst 0, 1) := by decide +kernel
theorem dX3_trialDoesAs_30 : decode cX3_trialDoesAs 30 = .ok (.ireturn, 1) := by decide +kernel
theorem dX3_trialDoesAs_31 : decode cX3_trialDoesAs 31 = .ok (.aload_n 0, 1) := by decide +kernel
theorem dX3_trialDoesAs_32 : decode cX3_trialDoesAs 32 = .ok (.getfield 16, 3) := by decide +kernel
theorem dX3_trialDoesAs_35 : decode cX3_trialDoesAs 35 = .ok (.invokevirtual 133, 3) := by decide +kernel
theorem dX3_trialDoesAs_38 : decode cX3_trialDoesAs 38 = .ok (.iinc 3 1, 3) := by decide +kernel
theorem dX3_trialDoesAs_41 : decode cX3_trialDoesAs 41 = .ok (.goto (-39), 3) := by decide +kernel
theorem dX3_trialDoesAs_44 : decode cX3_trialDoesAs 44 = .ok (.iconst 1, 1) := by decide +kernel
theorem dX3_trialDoesAs_45 : decode cX3_trialDoesAs 45 = .ok (.ireturn, 1) := by decide +kernel
theorem dX3_isIn_0 : decode cX3_isIn 0 = .ok (.iload_n 0, 1) := by decide +kernel
theorem dX3_isIn_1 : decode cX3_isIn 1 = .ok (.iload_n 1, 1) := by decide +kernel
theorem dX3_isIn_2 : decode cX3_isIn 2 = .ok (.if_icmp .lt 12, 3) := by decide +kernel
theorem dX3_isIn_5 : decode cX3_isIn 5 = .ok (.iload_n 0, 1) := by decide +kernel
theorem dX3_isIn_6 : decode cX3_isIn 6 = .ok (.iload_n 2, 1) := by decide +kernel
theorem dX3_isIn_7 : decode cX3_isIn 7 = .ok (.if_icmp .gt 7, 3) := by decide +kernel
theorem dX3_isIn_10 : decode cX3_isIn 10 = .ok (.iconst 1, 1) := by decide +kernel
theorem dX3_isIn_11 : decode cX3_isIn 11 = .ok (.goto 4, 3) := by decide +kernel
theorem dX3_isIn_14 : decode cX3_isIn 14 = .ok (.iconst 0, 1) := by decide +kernel
theorem dX3_isIn_15 : decode cX3_isIn 15 = .ok (.ireturn, 1) := by decide +kernel
theorem dX3_held_0 : decode cX3_held 0 = .ok (.iload_n 1, 1) := by decide +kernel
theorem dX3_held_1 : decode cX3_held 1 = .ok (.iload_n 2, 1) := by decide +kernel
theorem dX3_held_2 : decode cX3_held 2 = .ok (.iload_n 0, 1) := by decide +kernel
theorem dX3_held_3 : decode cX3_held 3 = .ok (.invokestatic 204, 3) := by decide +kernel
theorem dX3_held_6 : decode cX3_held 6 = .ok (.invokestatic 209, 3) := by decide +kernel
theorem dX3_held_9 : decode cX3_held 9 = .ok (.ireturn, 1) := by decide +kernel
theorem dX3_isUnder_0 : decode cX3_isUnder 0 = .ok (.iload_n 0, 1) := by decide +kernel
theorem dX3_isUnder_1 : decode cX3_isUnder 1 = .ok (.istore_n 2, 1) := by decide +kernel
theorem dX3_isUnder_2 : decode cX3_isUnder 2 = .ok (.iconst 0, 1) := by decide +kernel
theorem dX3_isUnder_3 : decode cX3_isUnder 3 = .ok (.istore_n 3, 1) := by decide +kernel
theorem dX3_isUnder_4 : decode cX3_isUnder 4 = .ok (.iload_n 3, 1) := by decide +kernel
theorem dX3_isUnder_5 : decode cX3_isUnder 5 = .ok (.bipush 6, 2) := by decide +kernel
theorem dX3_isUnder_7 : decode cX3_isUnder 7 = .ok (.if_icmp .ge 32, 3) := by decide +kernel
theorem dX3_isUnder_10 : decode cX3_isUnder 10 = .ok (.iload_n 2, 1) := by decide +kernel
theorem dX3_isUnder_11 : decode cX3_isUnder 11 = .ok (.ifCond .lt 28, 3) := by decide +kernel
theorem dX3_isUnder_14 : decode cX3_isUnder 14 = .ok (.iload_n 2, 1) := by decide +kernel
theorem dX3_isUnder_15 : decode cX3_isUnder 15 = .ok (.bipush 6, 2) := by decide +kernel
theorem dX3_isUnder_17 : decode cX3_isUnder 17 = .ok (.if_icmp .ge 22, 3) := by decide +kernel
theorem dX3_isUnder_20 : decode cX3_isUnder 20 = .ok (.iload_n 2, 1) := by decide +kernel
theorem dX3_isUnder_21 : decode cX3_isUnder 21 = .ok (.iload_n 1, 1) := by decide +kernel
theorem dX3_isUnder_22 : decode cX3_isUnder 22 = .ok (.if_icmp .ne 5, 3) := by decide +kernel
theorem dX3_isUnder_25 : decode cX3_isUnder 25 = .ok (.iconst 1, 1) := by decide +kernel
theorem dX3_isUnder_26 : decode cX3_isUnder 26 = .ok (.ireturn, 1) := by decide +kernel
theorem dX3_isUnder_27 : decode cX3_isUnder 27 = .ok (.getstatic 212, 3) := by decide +kernel
theorem dX3_isUnder_30 : decode cX3_isUnder 30 = .ok (.iload_n 2, 1) := by decide +kernel
theorem dX3_isUnder_31 : decode cX3_isUnder 31 = .ok (.iaload, 1) := by decide +kernel
theorem dX3_isUnder_32 : decode cX3_isUnder 32 = .ok (.istore_n 2, 1) := by decide +kernel
theorem dX3_isUnder_33 : decode cX3_isUnder 33 = .ok (.iinc 3 1, 3) := by decide +kernel
theorem dX3_isUnder_36 : decode cX3_isUnder 36 = .ok (.goto (-32), 3) := by decide +kernel
theorem dX3_isUnder_39 : decode cX3_isUnder 39 = .ok (.iconst 0, 1) := by decide +kernel
theorem dX3_isUnder_40 : decode cX3_isUnder 40 = .ok (.ireturn, 1) := by decide +kernel
theorem dX3_staleness_0 : decode cX3_staleness 0 = .ok (.iload_n 0, 1) := by decide +kernel
theorem dX3_staleness_1 : decode cX3_staleness 1 = .ok (.tableswitch 47 1 5 #[35, 37, 40, 43, 45], 35) := by decide +kernel
theorem dX3_staleness_36 : decode cX3_staleness 36 = .ok (.iconst 3, 1) := by decide +kernel
theorem dX3_staleness_37 : decode cX3_staleness 37 = .ok (.ireturn, 1) := by decide +kernel
theorem dX3_staleness_38 : decode cX3_staleness 38 = .ok (.bipush 8, 2) := by decide +kernel
theorem dX3_staleness_40 : decode cX3_staleness 40 = .ok (.ireturn, 1) := by decide +kernel
theorem dX3_staleness_41 : decode cX3_staleness 41 = .ok (.bipush (-5), 2) := by decide +kernel
theorem dX3_staleness_43 : decode cX3_staleness 43 = .ok (.ireturn, 1) := by decide +kernel
theorem dX3_staleness_44 : decode cX3_staleness 44 = .ok (.iconst 0, 1) := by decide +kernel
theorem dX3_staleness_45 : decode cX3_staleness 45 = .ok (.ireturn, 1) := by decide +kernel
theorem dX3_staleness_46 : decode cX3_staleness 46 = .ok (.iconst 5, 1) := by decide +kernel
theorem dX3_staleness_47 : decode cX3_staleness 47 = .ok (.ireturn, 1) := by decide +kernel
theorem dX3_staleness_48 : decode cX3_staleness 48 = .ok (.iconst 4, 1) := by decide +kernel
theorem dX3_staleness_49 : decode cX3_staleness 49 = .ok (.ireturn, 1) := by decide +kernel
theorem dX3_scoreFor_0 : decode cX3_scoreFor 0 = .ok (.iload_n 0, 1) := by decide +kernel
theorem dX3_scoreFor_1 : decode cX3_scoreFor 1 = .ok (.tableswitch 89 1 5 #[35, 41, 47, 58, 79], 35) := by decide +kernel
theorem dX3_scoreFor_36 : decode cX3_scoreFor 36 = .ok (.iload_n 1, 1) := by decide +kernel
theorem dX3_scoreFor_37 : decode cX3_scoreFor 37 = .ok (.iload_n 2, 1) := by decide +kernel
theorem dX3_scoreFor_38 : decode cX3_scoreFor 38 = .ok (.invokestatic 215, 3) := by decide +kernel
theorem dX3_scoreFor_41 : decode cX3_scoreFor 41 = .ok (.ireturn, 1) := by decide +kernel
theorem dX3_scoreFor_42 : decode cX3_scoreFor 42 = .ok (.iload_n 1, 1) := by decide +kernel
theorem dX3_scoreFor_43 : decode cX3_scoreFor 43 = .ok (.iload_n 2, 1) := by decide +kernel
theorem dX3_scoreFor_44 : decode cX3_scoreFor 44 = .ok (.invokestatic 218, 3) := by decide +kernel
theorem dX3_scoreFor_47 : decode cX3_scoreFor 47 = .ok (.ireturn, 1) := by decide +kernel
theorem dX3_scoreFor_48 : decode cX3_scoreFor 48 = .ok (.iload_n 2, 1) := by decide +kernel
theorem dX3_scoreFor_49 : decode cX3_scoreFor 49 = .ok (.ifCond .ne 7, 3) := by decide +kernel
theorem dX3_scoreFor_52 : decode cX3_scoreFor 52 = .ok (.iconst 1, 1) := by decide +kernel
theorem dX3_scoreFor_53 : decode cX3_scoreFor 53 = .ok (.goto 5, 3) := by decide +kernel
theorem dX3_scoreFor_56 : decode cX3_scoreFor 56 = .ok (.bipush (-3), 2) := by decide +kernel
theorem dX3_scoreFor_58 : decode cX3_scoreFor 58 = .ok (.ireturn, 1) := by decide +kernel
theorem dX3_scoreFor_59 : decode cX3_scoreFor 59 = .ok (.iload_n 1, 1) := by decide +kernel
theorem dX3_scoreFor_60 : decode cX3_scoreFor 60 = .ok (.iconst 4, 1) := by decide +kernel
theorem dX3_scoreFor_61 : decode cX3_scoreFor 61 = .ok (.if_icmp .ne 13, 3) := by decide +kernel
theorem dX3_scoreFor_64 : decode cX3_scoreFor 64 = .ok (.iload_n 1, 1) := by decide +kernel
theorem dX3_scoreFor_65 : decode cX3_scoreFor 65 = .ok (.iload_n 2, 1) := by decide +kernel
theorem dX3_scoreFor_66 : decode cX3_scoreFor 66 = .ok (.invokestatic 215, 3) := by decide +kernel
theorem dX3_scoreFor_69 : decode cX3_scoreFor 69 = .ok (.iconst 2, 1) := by decide +kernel
theorem dX3_scoreFor_70 : decode cX3_scoreFor 70 = .ok (.isub, 1) := by decide +kernel
theorem dX3_scoreFor_71 : decode cX3_scoreFor 71 = .ok (.goto 8, 3) := by decide +kernel
theorem dX3_scoreFor_74 : decode cX3_scoreFor 74 = .ok (.iload_n 1, 1) := by decide +kernel
theorem dX3_scoreFor_75 : decode cX3_scoreFor 75 = .ok (.iload_n 2, 1) := by decide +kernel
theorem dX3_scoreFor_76 : decode cX3_scoreFor 76 = .ok (.invokestatic 215, 3) := by decide +kernel
theorem dX3_scoreFor_79 : decode cX3_scoreFor 79 = .ok (.ireturn, 1) := by decide +kernel
theorem dX3_scoreFor_80 : decode cX3_scoreFor 80 = .ok (.iconst 0, 1) := by decide +kernel
theorem dX3_scoreFor_81 : decode cX3_scoreFor 81 = .ok (.iload_n 1, 1) := by decide +kernel
theorem dX3_scoreFor_82 : decode cX3_scoreFor 82 = .ok (.iload_n 2, 1) := by decide +kernel
theorem dX3_scoreFor_83 : decode cX3_scoreFor 83 = .ok (.invokestatic 218, 3) := by decide +kernel
theorem dX3_scoreFor_86 : decode cX3_scoreFor 86 = .ok (.invokestatic 209, 3) := by decide +kernel
theorem dX3_scoreFor_89 : decode cX3_scoreFor 89 = .ok (.ireturn, 1) := by decide +kernel
theorem dX3_scoreFor_90 : decode cX3_scoreFor 90 = .ok (.iload_n 1, 1) := by decide +kernel
theorem dX3_scoreFor_91 : decode cX3_scoreFor 91 = .ok (.iload_n 2, 1) := by decide +kernel
theorem dX3_scoreFor_92 : decode cX3_scoreFor 92 = .ok (.invokestatic 221, 3) := by decide +kernel
theorem dX3_scoreFor_95 : decode cX3_scoreFor 95 = .ok (.ireturn, 1) := by decide +kernel
theorem dX3_sitterScore_0 : decode cX3_sitterScore 0 = .ok (.iload_n 0, 1) := by decide +kernel
theorem dX3_sitterScore_1 : decode cX3_sitterScore 1 = .ok (.iload_n 1, 1) := by decide +kernel
theorem dX3_sitterScore_2 : decode cX3_sitterScore 2 = .ok (.if_icmp .ne 5, 3) := by decide +kernel
theorem dX3_sitterScore_5 : decode cX3_sitterScore 5 = .ok (.iconst 3, 1) := by decide +kernel
theorem dX3_sitterScore_6 : decode cX3_sitterScore 6 = .ok (.ireturn, 1) := by decide +kernel
theorem dX3_sitterScore_7 : decode cX3_sitterScore 7 = .ok (.iload_n 0, 1) := by decide +kernel
theorem dX3_sitterScore_8 : decode cX3_sitterScore 8 = .ok (.ifCond .ne 7, 3) := by decide +kernel
theorem dX3_sitterScore_11 : decode cX3_sitterScore 11 = .ok (.iconst (-1), 1) := by decide +kernel
theorem dX3_sitterScore_12 : decode cX3_sitterScore 12 = .ok (.goto 5, 3) := by decide +kernel
theorem dX3_sitterScore_15 : decode cX3_sitterScore 15 = .ok (.bipush (-2), 2) := by decide +kernel
theorem dX3_sitterScore_17 : decode cX3_sitterScore 17 = .ok (.ireturn, 1) := by decide +kernel
theorem dX3_cougherScore_0 : decode cX3_cougherScore 0 = .ok (.iload_n 0, 1) := by decide +kernel
theorem dX3_cougherScore_1 : decode cX3_cougherScore 1 = .ok (.iconst 3, 1) := by decide +kernel
theorem dX3_cougherScore_2 : decode cX3_cougherScore 2 = .ok (.if_icmp .ne 12, 3) := by decide +kernel
theorem dX3_cougherScore_5 : decode cX3_cougherScore 5 = .ok (.iload_n 1, 1) := by decide +kernel
theorem dX3_cougherScore_6 : decode cX3_cougherScore 6 = .ok (.iconst 3, 1) := by decide +kernel
theorem dX3_cougherScore_7 : decode cX3_cougherScore 7 = .ok (.if_icmp .ne 7, 3) := by decide +kernel
theorem dX3_cougherScore_10 : decode cX3_cougherScore 10 = .ok (.iconst 5, 1) := by decide +kernel
theorem dX3_cougherScore_11 : decode cX3_cougherScore 11 = .ok (.goto 8, 3) := by decide +kernel
theorem dX3_cougherScore_14 : decode cX3_cougherScore 14 = .ok (.iload_n 0, 1) := by decide +kernel
theorem dX3_cougherScore_15 : decode cX3_cougherScore 15 = .ok (.iload_n 1, 1) := by decide +kernel
theorem dX3_cougherScore_16 : decode cX3_cougherScore 16 = .ok (.invokestatic 221, 3) := by decide +kernel
theorem dX3_cougherScore_19 : decode cX3_cougherScore 19 = .ok (.ireturn, 1) := by decide +kernel
theorem dX3_weeperScore_0 : decode cX3_weeperScore 0 = .ok (.iload_n 0, 1) := by decide +kernel
theorem dX3_weeperScore_1 : decode cX3_weeperScore 1 = .ok (.iconst 1, 1) := by decide +kernel
theorem dX3_weeperScore_2 : decode cX3_weeperScore 2 = .ok (.if_icmp .ne 13, 3) := by decide +kernel
theorem dX3_weeperScore_5 : decode cX3_weeperScore 5 = .ok (.iload_n 0, 1) := by decide +kernel
theorem dX3_weeperScore_6 : decode cX3_weeperScore 6 = .ok (.iload_n 1, 1) := by decide +kernel
theorem dX3_weeperScore_7 : decode cX3_weeperScore 7 = .ok (.invokestatic 221, 3) := by decide +kernel
theorem dX3_weeperScore_10 : decode cX3_weeperScore 10 = .ok (.iconst 1, 1) := by decide +kernel
theorem dX3_weeperScore_11 : decode cX3_weeperScore 11 = .ok (.iadd, 1) := by decide +kernel
theorem dX3_weeperScore_12 : decode cX3_weeperScore 12 = .ok (.goto 8, 3) := by decide +kernel
theorem dX3_weeperScore_15 : decode cX3_weeperScore 15 = .ok (.iload_n 0, 1) := by decide +kernel
theorem dX3_weeperScore_16 : decode cX3_weeperScore 16 = .ok (.iload_n 1, 1) := by decide +kernel
theorem dX3_weeperScore_17 : decode cX3_weeperScore 17 = .ok (.invokestatic 221, 3) := by decide +kernel
theorem dX3_weeperScore_20 : decode cX3_weeperScore 20 = .ok (.ireturn, 1) := by decide +kernel
theorem dX4_init_0 : decode cX4_init 0 = .ok (.aload_n 0, 1) := by decide +kernel
theorem dX4_init_1 : decode cX4_init 1 = .ok (.invokespecial 1, 3) := by decide +kernel
theorem dX4_init_4 : decode cX4_init 4 = .ok (.aload_n 0, 1) := by decide +kernel
theorem dX4_init_5 : decode cX4_init 5 = .ok (.bipush 67, 2) := by decide +kernel
theorem dX4_init_7 : decode cX4_init 7 = .ok (.newarray .int, 2) := by decide +kernel
theorem dX4_init_9 : decode cX4_init 9 = .ok (.putfield 7, 3) := by decide +kernel
theorem dX4_init_12 : decode cX4_init 12 = .ok (.aload_n 0, 1) := by decide +kernel
theorem dX4_init_13 : decode cX4_init 13 = .ok (.bipush 67, 2) := by decide +kernel
theorem dX4_init_15 : decode cX4_init 15 = .ok (.newarray .int, 2) := by decide +kernel
theorem dX4_init_17 : decode cX4_init 17 = .ok (.putfield 13, 3) := by decide +kernel
theorem dX4_init_20 : decode cX4_init 20 = .ok (.aload_n 0, 1) := by decide +kernel
theorem dX4_init_21 : decode cX4_init 21 = .ok (.bipush 67, 2) := by decide +kernel
theorem dX4_init_23 : decode cX4_init 23 = .ok (.newarray .int, 2) := by decide +kernel
theorem dX4_init_25 : decode cX4_init 25 = .ok (.putfield 16, 3) := by decide +kernel
theorem dX4_init_28 : decode cX4_init 28 = .ok (.aload_n 0, 1) := by decide +kernel
theorem dX4_init_29 : decode cX4_init 29 = .ok (.bipush 67, 2) := by decide +kernel
theorem dX4_init_31 : decode cX4_init 31 = .ok (.newarray .int, 2) := by decide +kernel
theorem dX4_init_33 : decode cX4_init 33 = .ok (.putfield 19, 3) := by decide +kernel
theorem dX4_init_36 : decode cX4_init 36 = .ok (.aload_n 0, 1) := by decide +kernel
theorem dX4_init_37 : decode cX4_init 37 = .ok (.bipush 7, 2) := by decide +kernel
theorem dX4_init_39 : decode cX4_init 39 = .ok (.newarray .int, 2) := by decide +kernel
theorem dX4_init_41 : decode cX4_init 41 = .ok (.putfield 22, 3) := by decide +kernel
theorem dX4_init_44 : decode cX4_init 44 = .ok (.aload_n 0, 1) := by decide +kernel
theorem dX4_init_45 : decode cX4_init 45 = .ok (.bipush 120, 2) := by decide +kernel
theorem dX4_init_47 : decode cX4_init 47 = .ok (.newarray .byte, 2) := by decide +kernel
theorem dX4_init_49 : decode cX4_init 49 = .ok (.putfield 25, 3) := by decide +kernel
theorem dX4_init_52 : decode cX4_init 52 = .ok (.aload_n 0, 1) := by decide +kernel
theorem dX4_init_53 : decode cX4_init 53 = .ok (.bipush 8, 2) := by decide +kernel
theorem dX4_init_55 : decode cX4_init 55 = .ok (.newarray .int, 2) := by decide +kernel
theorem dX4_init_57 : decode cX4_init 57 = .ok (.putfield 29, 3) := by decide +kernel
theorem dX4_init_60 : decode cX4_init 60 = .ok (.aload_n 0, 1) := by decide +kernel
theorem dX4_init_61 : decode cX4_init 61 = .ok (.iconst 4, 1) := by decide +kernel
theorem dX4_init_62 : decode cX4_init 62 = .ok (.newarray .int, 2) := by decide +kernel
theorem dX4_init_64 : decode cX4_init 64 = .ok (.putfield 32, 3) := by decide +kernel
theorem dX4_init_67 : decode cX4_init 67 = .ok (.aload_n 0, 1) := by decide +kernel
theorem dX4_init_68 : decode cX4_init 68 = .ok (.iconst 4, 1) := by decide +kernel
theorem dX4_init_69 : decode cX4_init 69 = .ok (.newarray .int, 2) := by decide +kernel
theorem dX4_init_71 : decode cX4_init 71 = .ok (.putfield 35, 3) := by decide +kernel
theorem dX4_init_74 : decode cX4_init 74 = .ok (.aload_n 0, 1) := by decide +kernel
theorem dX4_init_75 : decode cX4_init 75 = .ok (.sipush 160, 3) := by decide +kernel
theorem dX4_init_78 : decode cX4_init 78 = .ok (.newarray .long, 2) := by decide +kernel
theorem dX4_init_80 : decode cX4_init 80 = .ok (.putfield 38, 3) := by decide +kernel
theorem dX4_init_83 : decode cX4_init 83 = .ok (.aload_n 0, 1) := by decide +kernel
theorem dX4_init_84 : decode cX4_init 84 = .ok (.bipush 40, 2) := by decide +kernel
theorem dX4_init_86 : decode cX4_init 86 = .ok (.newarray .long, 2) := by decide +kernel
theorem dX4_init_88 : decode cX4_init 88 = .ok (.putfield 42, 3) := by decide +kernel
theorem dX4_init_91 : decode cX4_init 91 = .ok (.iconst 0, 1) := by decide +kernel
theorem dX4_init_92 : decode cX4_init 92 = .ok (.istore_n 1, 1) := by decide +kernel
theorem dX4_init_93 : decode cX4_init 93 = .ok (.iload_n 1, 1) := by decide +kernel
theorem dX4_init_94 : decode cX4_init 94 = .ok (.bipush 16, 2) := by decide +kernel
theorem dX4_init_96 : decode cX4_init 96 = .ok (.if_icmp .ge 30, 3) := by decide +kernel
theorem dX4_init_99 : decode cX4_init 99 = .ok (.aload_n 0, 1) := by decide +kernel
theorem dX4_init_100 : decode cX4_init 100 = .ok (.getfield 7, 3) := by decide +kernel
theorem dX4_init_103 : decode cX4_init 103 = .ok (.iconst 3, 1) := by decide +kernel
theorem dX4_init_104 : decode cX4_init 104 = .ok (.iload_n 1, 1) := by decide +kernel
theorem dX4_init_105 : decode cX4_init 105 = .ok (.iadd, 1) := by decide +kernel
theorem dX4_init_106 : decode cX4_init 106 = .ok (.iload_n 1, 1) := by decide +kernel
theorem dX4_init_107 : decode cX4_init 107 = .ok (.iconst 5, 1) := by decide +kernel
theorem dX4_init_108 : decode cX4_init 108 = .ok (.irem, 1) := by decide +kernel
theorem dX4_init_109 : decode cX4_init 109 = .ok (.iastore, 1) := by decide +kernel
theorem dX4_init_110 : decode cX4_init 110 = .ok (.aload_n 0, 1) := by decide +kernel
theorem dX4_init_111 : decode cX4_init 111 = .ok (.getfield 7, 3) := by decide +kernel
theorem dX4_init_114 : decode cX4_init 114 = .ok (.bipush 19, 2) := by decide +kernel
theorem dX4_init_116 : decode cX4_init 116 = .ok (.iload_n 1, 1) := by decide +kernel
theorem dX4_init_117 : decode cX4_init 117 = .ok (.iadd, 1) := by decide +kernel
theorem dX4_init_118 : decode cX4_init 118 = .ok (.iconst 5, 1) := by decide +kernel
theorem dX4_init_119 : decode cX4_init 119 = .ok (.iastore, 1) := by decide +kernel
theorem dX4_init_120 : decode cX4_init 120 = .ok (.iinc 1 1, 3) := by decide +kernel
theorem dX4_init_123 : decode cX4_init 123 = .ok (.goto (-30), 3) := by decide +kernel
theorem dX4_init_126 : decode cX4_init 126 = .ok (.return_, 1) := by decide +kernel
theorem dX4_finds_0 : decode cX4_finds 0 = .ok (.aload_n 0, 1) := by decide +kernel
theorem dX4_finds_1 : decode cX4_finds 1 = .ok (.getfield 22, 3) := by decide +kernel
theorem dX4_finds_4 : decode cX4_finds 4 = .ok (.iload_n 1, 1) := by decide +kernel
theorem dX4_finds_5 : decode cX4_finds 5 = .ok (.dup2, 1) := by decide +kernel
theorem dX4_finds_6 : decode cX4_finds 6 = .ok (.iaload, 1) := by decide +kernel
theorem dX4_finds_7 : decode cX4_finds 7 = .ok (.iconst 1, 1) := by decide +kernel
theorem dX4_finds_8 : decode cX4_finds 8 = .ok (.iadd, 1) := by decide +kernel
theorem dX4_finds_9 : decode cX4_finds 9 = .ok (.iastore, 1) := by decide +kernel
theorem dX4_finds_10 : decode cX4_finds 10 = .ok (.ldc 45, 2) := by decide +kernel
theorem dX4_finds_12 : decode cX4_finds 12 = .ok (.iload_n 1, 1) := by decide +kernel
theorem dX4_finds_13 : decode cX4_finds 13 = .ok (.isub, 1) := by decide +kernel
theorem dX4_finds_14 : decode cX4_finds 14 = .ok (.ireturn, 1) := by decide +kernel
theorem dX4_in_0 : decode cX4_in 0 = .ok (.lload_n 0, 1) := by decide +kernel
theorem dX4_in_1 : decode cX4_in 1 = .ok (.lload_n 2, 1) := by decide +kernel
theorem dX4_in_2 : decode cX4_in 2 = .ok (.lcmp, 1) := by decide +kernel
theorem dX4_in_3 : decode cX4_in 3 = .ok (.ifCond .lt 14, 3) := by decide +kernel
theorem dX4_in_6 : decode cX4_in 6 = .ok (.lload_n 0, 1) := by decide +kernel
theorem dX4_in_7 : decode cX4_in 7 = .ok (.lload 4, 2) := by decide +kernel
theorem dX4_in_9 : decode cX4_in 9 = .ok (.lcmp, 1) := by decide +kernel
theorem dX4_in_10 : decode cX4_in 10 = .ok (.ifCond .gt 7, 3) := by decide +kernel
theorem dX4_in_13 : decode cX4_in 13 = .ok (.iconst 1, 1) := by decide +kernel
theorem dX4_in_14 : decode cX4_in 14 = .ok (.goto 4, 3) := by decide +kernel
theorem dX4_in_17 : decode cX4_in 17 = .ok (.iconst 0, 1) := by decide +kernel
theorem dX4_in_18 : decode cX4_in 18 = .ok (.ireturn, 1) := by decide +kernel
theorem dX4_held_0 : decode cX4_held 0 = .ok (.iload_n 0, 1) := by decide +kernel
theorem dX4_held_1 : decode cX4_held 1 = .ok (.iload_n 1, 1) := by decide +kernel
theorem dX4_held_2 : decode cX4_held 2 = .ok (.if_icmp .ge 7, 3) := by decide +kernel
theorem dX4_held_5 : decode cX4_held 5 = .ok (.iload_n 1, 1) := by decide +kernel
theorem dX4_held_6 : decode cX4_held 6 = .ok (.goto 13, 3) := by decide +kernel
theorem dX4_held_9 : decode cX4_held 9 = .ok (.iload_n 0, 1) := by decide +kernel
theorem dX4_held_10 : decode cX4_held 10 = .ok (.iload_n 2, 1) := by decide +kernel
theorem dX4_held_11 : decode cX4_held 11 = .ok (.if_icmp .le 7, 3) := by decide +kernel
theorem dX4_held_14 : decode cX4_held 14 = .ok (.iload_n 2, 1) := by decide +kernel
theorem dX4_held_15 : decode cX4_held 15 = .ok (.goto 4, 3) := by decide +kernel
theorem dX4_held_18 : decode cX4_held 18 = .ok (.iload_n 0, 1) := by decide +kernel
theorem dX4_held_19 : decode cX4_held 19 = .ok (.ireturn, 1) := by decide +kernel
theorem dX4_copies_0 : decode cX4_copies 0 = .ok (.iconst 0, 1) := by decide +kernel
theorem dX4_copies_1 : decode cX4_copies 1 = .ok (.istore_n 2, 1) := by decide +kernel
theorem dX4_copies_2 : decode cX4_copies 2 = .ok (.iload_n 2, 1) := by decide +kernel
theorem dX4_copies_3 : decode cX4_copies 3 = .ok (.bipush 67, 2) := by decide +kernel
theorem dX4_copies_5 : decode cX4_copies 5 = .ok (.if_icmp .ge 15, 3) := by decide +kernel
theorem dX4_copies_8 : decode cX4_copies 8 = .ok (.aload_n 1, 1) := by decide +kernel
theorem dX4_copies_9 : decode cX4_copies 9 = .ok (.iload_n 2, 1) := by decide +kernel
theorem dX4_copies_10 : decode cX4_copies 10 = .ok (.aload_n 0, 1) := by decide +kernel
theorem dX4_copies_11 : decode cX4_copies 11 = .ok (.iload_n 2, 1) := by decide +kernel
theorem dX4_copies_12 : decode cX4_copies 12 = .ok (.iaload, 1) := by decide +kernel
theorem dX4_copies_13 : decode cX4_copies 13 = .ok (.iastore, 1) := by decide +kernel
theorem dX4_copies_14 : decode cX4_copies 14 = .ok (.iinc 2 1, 3) := by decide +kernel
theorem dX4_copies_17 : decode cX4_copies 17 = .ok (.goto (-15), 3) := by decide +kernel
theorem dX4_copies_20 : decode cX4_copies 20 = .ok (.return_, 1) := by decide +kernel
theorem dX4_isPerson_0 : decode cX4_isPerson 0 = .ok (.iload_n 1, 1) := by decide +kernel
theorem dX4_isPerson_1 : decode cX4_isPerson 1 = .ok (.i2l, 1) := by decide +kernel
theorem dX4_isPerson_2 : decode cX4_isPerson 2 = .ok (.lconst 0, 1) := by decide +kernel
theorem dX4_isPerson_3 : decode cX4_isPerson 3 = .ok (.aload_n 0, 1) := by decide +kernel
theorem dX4_isPerson_4 : decode cX4_isPerson 4 = .ok (.getfield 7, 3) := by decide +kernel
theorem dX4_isPerson_7 : decode cX4_isPerson 7 = .ok (.iconst 0, 1) := by decide +kernel
theorem dX4_isPerson_8 : decode cX4_isPerson 8 = .ok (.iaload, 1) := by decide +kernel
theorem dX4_isPerson_9 : decode cX4_isPerson 9 = .ok (.iconst 1, 1) := by decide +kernel
theorem dX4_isPerson_10 : decode cX4_isPerson 10 = .ok (.isub, 1) := by decide +kernel
theorem dX4_isPerson_11 : decode cX4_isPerson 11 = .ok (.i2l, 1) := by decide +kernel
theorem dX4_isPerson_12 : decode cX4_isPerson 12 = .ok (.invokestatic 46, 3) := by decide +kernel
theorem dX4_isPerson_15 : decode cX4_isPerson 15 = .ok (.ireturn, 1) := by decide +kernel
theorem dX4_its_0 : decode cX4_its 0 = .ok (.aload_n 0, 1) := by decide +kernel
theorem dX4_its_1 : decode cX4_its 1 = .ok (.getfield 7, 3) := by decide +kernel
theorem dX4_its_4 : decode cX4_its 4 = .ok (.bipush 35, 2) := by decide +kernel
theorem dX4_its_6 : decode cX4_its 6 = .ok (.iconst 4, 1) := by decide +kernel
theorem dX4_its_7 : decode cX4_its 7 = .ok (.iload_n 1, 1) := by decide +kernel
theorem dX4_its_8 : decode cX4_its 8 = .ok (.imul, 1) := by decide +kernel
theorem dX4_its_9 : decode cX4_its 9 = .ok (.iadd, 1) := by decide +kernel
theorem dX4_its_10 : decode cX4_its 10 = .ok (.iload_n 2, 1) := by decide +kernel
theorem dX4_its_11 : decode cX4_its 11 = .ok (.iadd, 1) := by decide +kernel
theorem dX4_its_12 : decode cX4_its 12 = .ok (.iaload, 1) := by decide +kernel
theorem dX4_its_13 : decode cX4_its 13 = .ok (.ireturn, 1) := by decide +kernel
theorem dX4_sets_0 : decode cX4_sets 0 = .ok (.aload_n 0, 1) := by decide +kernel
theorem dX4_sets_1 : decode cX4_sets 1 = .ok (.getfield 7, 3) := by decide +kernel
theorem dX4_sets_4 : decode cX4_sets 4 = .ok (.bipush 35, 2) := by decide +kernel
theorem dX4_sets_6 : decode cX4_sets 6 = .ok (.iconst 4, 1) := by decide +kernel
theorem dX4_sets_7 : decode cX4_sets 7 = .ok (.iload_n 1, 1) := by decide +kernel
theorem dX4_sets_8 : decode cX4_sets 8 = .ok (.imul, 1) := by decide +kernel
theorem dX4_sets_9 : decode cX4_sets 9 = .ok (.iadd, 1) := by decide +kernel
theorem dX4_sets_10 : decode cX4_sets 10 = .ok (.iload_n 2, 1) := by decide +kernel
theorem dX4_sets_11 : decode cX4_sets 11 = .ok (.iadd, 1) := by decide +kernel
theorem dX4_sets_12 : decode cX4_sets 12 = .ok (.iload_n 3, 1) := by decide +kernel
theorem dX4_sets_13 : decode cX4_sets 13 = .ok (.iastore, 1) := by decide +kernel
theorem dX4_sets_14 : decode cX4_sets 14 = .ok (.return_, 1) := by decide +kernel
theorem dX4_becomes_0 : decode cX4_becomes 0 = .ok (.aload_n 0, 1) := by decide +kernel
theorem dX4_becomes_1 : decode cX4_becomes 1 = .ok (.getfield 7, 3) := by decide +kernel
theorem dX4_becomes_4 : decode cX4_becomes 4 = .ok (.iload_n 1, 1) := by decide +kernel
theorem dX4_becomes_5 : decode cX4_becomes 5 = .ok (.iaload, 1) := by decide +kernel
theorem dX4_becomes_6 : decode cX4_becomes 6 = .ok (.istore_n 3, 1) := by decide +kernel
theorem dX4_becomes_7 : decode cX4_becomes 7 = .ok (.aload_n 0, 1) := by decide +kernel
theorem dX4_becomes_8 : decode cX4_becomes 8 = .ok (.getfield 7, 3) := by decide +kernel
theorem dX4_becomes_11 : decode cX4_becomes 11 = .ok (.iload_n 1, 1) := by decide +kernel
theorem dX4_becomes_12 : decode cX4_becomes 12 = .ok (.iload_n 2, 1) := by decide +kernel
theorem dX4_becomes_13 : decode cX4_becomes 13 = .ok (.iastore, 1) := by decide +kernel
theorem dX4_becomes_14 : decode cX4_becomes 14 = .ok (.iload_n 3, 1) := by decide +kernel
theorem dX4_becomes_15 : decode cX4_becomes 15 = .ok (.ireturn, 1) := by decide +kernel
theorem dX4_isBeside_0 : decode cX4_isBeside 0 = .ok (.aload_n 0, 1) := by decide +kernel
theorem dX4_isBeside_1 : decode cX4_isBeside 1 = .ok (.iload_n 1, 1) := by decide +kernel
theorem dX4_isBeside_2 : decode cX4_isBeside 2 = .ok (.iconst 1, 1) := by decide +kernel
theorem dX4_isBeside_3 : decode cX4_isBeside 3 = .ok (.isub, 1) := by decide +kernel
theorem dX4_isBeside_4 : decode cX4_isBeside 4 = .ok (.invokevirtual 50, 3) := by decide +kernel
theorem dX4_isBeside_7 : decode cX4_isBeside 7 = .ok (.ifCond .eq 15, 3) := by decide +kernel
theorem dX4_isBeside_10 : decode cX4_isBeside 10 = .ok (.aload_n 0, 1) := by decide +kernel
theorem dX4_isBeside_11 : decode cX4_isBeside 11 = .ok (.iload_n 1, 1) := by decide +kernel
theorem dX4_isBeside_12 : decode cX4_isBeside 12 = .ok (.iconst 1, 1) := by decide +kernel
theorem dX4_isBeside_13 : decode cX4_isBeside 13 = .ok (.isub, 1) := by decide +kernel
theorem dX4_isBeside_14 : decode cX4_isBeside 14 = .ok (.iconst 3, 1) := by decide +kernel
theorem dX4_isBeside_15 : decode cX4_isBeside 15 = .ok (.invokevirtual 54, 3) := by decide +kernel
theorem dX4_isBeside_18 : decode cX4_isBeside 18 = .ok (.iload_n 2, 1) := by decide +kernel
theorem dX4_isBeside_19 : decode cX4_isBeside 19 = .ok (.if_icmp .eq 25, 3) := by decide +kernel
theorem dX4_isBeside_22 : decode cX4_isBeside 22 = .ok (.aload_n 0, 1) := by decide +kernel
theorem dX4_isBeside_23 : decode cX4_isBeside 23 = .ok (.iload_n 1, 1) := by decide +kernel
theorem dX4_isBeside_24 : decode cX4_isBeside 24 = .ok (.iconst 1, 1) := by decide +kernel
theorem dX4_isBeside_25 : decode cX4_isBeside 25 = .ok (.iadd, 1) := by decide +kernel
theorem dX4_isBeside_26 : decode cX4_isBeside 26 = .ok (.invokevirtual 50, 3) := by decide +kernel
theorem dX4_isBeside_29 : decode cX4_isBeside 29 = .ok (.ifCond .eq 19, 3) := by decide +kernel
theorem dX4_isBeside_32 : decode cX4_isBeside 32 = .ok (.aload_n 0, 1) := by decide +kernel
theorem dX4_isBeside_33 : decode cX4_isBeside 33 = .ok (.iload_n 1, 1) := by decide +kernel
theorem dX4_isBeside_34 : decode cX4_isBeside 34 = .ok (.iconst 1, 1) := by decide +kernel
theorem dX4_isBeside_35 : decode cX4_isBeside 35 = .ok (.iadd, 1) := by decide +kernel
theorem dX4_isBeside_36 : decode cX4_isBeside 36 = .ok (.iconst 3, 1) := by decide +kernel
theorem dX4_isBeside_37 : decode cX4_isBeside 37 = .ok (.invokevirtual 54, 3) := by decide +kernel
theorem dX4_isBeside_40 : decode cX4_isBeside 40 = .ok (.iload_n 2, 1) := by decide +kernel
theorem dX4_isBeside_41 : decode cX4_isBeside 41 = .ok (.if_icmp .ne 7, 3) := by decide +kernel
theorem dX4_isBeside_44 : decode cX4_isBeside 44 = .ok (.iconst 1, 1) := by decide +kernel
theorem dX4_isBeside_45 : decode cX4_isBeside 45 = .ok (.goto 4, 3) := by decide +kernel
theorem dX4_isBeside_48 : decode cX4_isBeside 48 = .ok (.iconst 0, 1) := by decide +kernel
theorem dX4_isBeside_49 : decode cX4_isBeside 49 = .ok (.ireturn, 1) := by decide +kernel
theorem dX4_doesNow_0 : decode cX4_doesNow 0 = .ok (.aload_n 0, 1) := by decide +kernel
theorem dX4_doesNow_1 : decode cX4_doesNow 1 = .ok (.getfield 7, 3) := by decide +kernel
theorem dX4_doesNow_4 : decode cX4_doesNow 4 = .ok (.iconst 3, 1) := by decide +kernel
theorem dX4_doesNow_5 : decode cX4_doesNow 5 = .ok (.aload_n 0, 1) := by decide +kernel
theorem dX4_doesNow_6 : decode cX4_doesNow 6 = .ok (.getfield 7, 3) := by decide +kernel
theorem dX4_doesNow_9 : decode cX4_doesNow 9 = .ok (.iconst 2, 1) := by decide +kernel
theorem dX4_doesNow_10 : decode cX4_doesNow 10 = .ok (.iaload, 1) := by decide +kernel
theorem dX4_doesNow_11 : decode cX4_doesNow 11 = .ok (.iadd, 1) := by decide +kernel
theorem dX4_doesNow_12 : decode cX4_doesNow 12 = .ok (.iaload, 1) := by decide +kernel
theorem dX4_doesNow_13 : decode cX4_doesNow 13 = .ok (.istore_n 2, 1) := by decide +kernel
theorem dX4_doesNow_14 : decode cX4_doesNow 14 = .ok (.aload_n 0, 1) := by decide +kernel
theorem dX4_doesNow_15 : decode cX4_doesNow 15 = .ok (.iload_n 1, 1) := by decide +kernel
theorem dX4_doesNow_16 : decode cX4_doesNow 16 = .ok (.iconst 1, 1) := by decide +kernel
theorem dX4_doesNow_17 : decode cX4_doesNow 17 = .ok (.invokevirtual 54, 3) := by decide +kernel
theorem dX4_doesNow_20 : decode cX4_doesNow 20 = .ok (.aload_n 0, 1) := by decide +kernel
theorem dX4_doesNow_21 : decode cX4_doesNow 21 = .ok (.getfield 7, 3) := by decide +kernel
theorem dX4_doesNow_24 : decode cX4_doesNow 24 = .ok (.bipush 19, 2) := by decide +kernel
theorem dX4_doesNow_26 : decode cX4_doesNow 26 = .ok (.aload_n 0, 1) := by decide +kernel
theorem dX4_doesNow_27 : decode cX4_doesNow 27 = .ok (.getfield 7, 3) := by decide +kernel
theorem dX4_doesNow_30 : decode cX4_doesNow 30 = .ok (.iconst 2, 1) := by decide +kernel
theorem dX4_doesNow_31 : decode cX4_doesNow 31 = .ok (.iaload, 1) := by decide +kernel
theorem dX4_doesNow_32 : decode cX4_doesNow 32 = .ok (.iadd, 1) := by decide +kernel
theorem dX4_doesNow_33 : decode cX4_doesNow 33 = .ok (.iaload, 1) := by decide +kernel
theorem dX4_doesNow_34 : decode cX4_doesNow 34 = .ok (.if_icmp .lt 7, 3) := by decide +kernel
theorem dX4_doesNow_37 : decode cX4_doesNow 37 = .ok (.iload_n 2, 1) := by decide +kernel
theorem dX4_doesNow_38 : decode cX4_doesNow 38 = .ok (.goto 4, 3) := by decide +kernel
theorem dX4_doesNow_41 : decode cX4_doesNow 41 = .ok (.iconst 0, 1) := by decide +kernel
theorem dX4_doesNow_42 : decode cX4_doesNow 42 = .ok (.istore_n 3, 1) := by decide +kernel
theorem dX4_doesNow_43 : decode cX4_doesNow 43 = .ok (.aload_n 0, 1) := by decide +kernel
theorem dX4_doesNow_44 : decode cX4_doesNow 44 = .ok (.iload_n 1, 1) := by decide +kernel
theorem dX4_doesNow_45 : decode cX4_doesNow 45 = .ok (.iconst 3, 1) := by decide +kernel
theorem dX4_doesNow_46 : decode cX4_doesNow 46 = .ok (.invokevirtual 58, 3) := by decide +kernel
theorem dX4_doesNow_49 : decode cX4_doesNow 49 = .ok (.ifCond .eq 7, 3) := by decide +kernel
theorem dX4_doesNow_52 : decode cX4_doesNow 52 = .ok (.iconst 3, 1) := by decide +kernel
theorem dX4_doesNow_53 : decode cX4_doesNow 53 = .ok (.goto 4, 3) := by decide +kernel
theorem dX4_doesNow_56 : decode cX4_doesNow 56 = .ok (.iload_n 3, 1) := by decide +kernel
theorem dX4_doesNow_57 : decode cX4_doesNow 57 = .ok (.istore 4, 2) := by decide +kernel
theorem dX4_doesNow_59 : decode cX4_doesNow 59 = .ok (.aload_n 0, 1) := by decide +kernel
theorem dX4_doesNow_60 : decode cX4_doesNow 60 = .ok (.iload_n 1, 1) := by decide +kernel
theorem dX4_doesNow_61 : decode cX4_doesNow 61 = .ok (.iconst 1, 1) := by decide +kernel
theorem dX4_doesNow_62 : decode cX4_doesNow 62 = .ok (.invokevirtual 54, 3) := by decide +kernel
theorem dX4_doesNow_65 : decode cX4_doesNow 65 = .ok (.bipush 40, 2) := by decide +kernel
theorem dX4_doesNow_67 : decode cX4_doesNow 67 = .ok (.if_icmp .lt 12, 3) := by decide +kernel
theorem dX4_doesNow_70 : decode cX4_doesNow 70 = .ok (.iload_n 2, 1) := by decide +kernel
theorem dX4_doesNow_71 : decode cX4_doesNow 71 = .ok (.iconst 2, 1) := by decide +kernel
theorem dX4_doesNow_72 : decode cX4_doesNow 72 = .ok (.if_icmp .eq 7, 3) := by decide +kernel
theorem dX4_doesNow_75 : decode cX4_doesNow 75 = .ok (.iconst 1, 1) := by decide +kernel
theorem dX4_doesNow_76 : decode cX4_doesNow 76 = .ok (.goto 4, 3) := by decide +kernel
theorem dX4_doesNow_79 : decode cX4_doesNow 79 = .ok (.iload_n 3, 1) := by decide +kernel
theorem dX4_doesNow_80 : decode cX4_doesNow 80 = .ok (.istore 5, 2) := by decide +kernel
theorem dX4_doesNow_82 : decode cX4_doesNow 82 = .ok (.aload_n 0, 1) := by decide +kernel
theorem dX4_doesNow_83 : decode cX4_doesNow 83 = .ok (.iload_n 1, 1) := by decide +kernel
theorem dX4_doesNow_84 : decode cX4_doesNow 84 = .ok (.iconst 0, 1) := by decide +kernel
theorem dX4_doesNow_85 : decode cX4_doesNow 85 = .ok (.invokevirtual 54, 3) := by decide +kernel
theorem dX4_doesNow_88 : decode cX4_doesNow 88 = .ok (.tableswitch 86 1 5 #[36, 39, 42, 44, 70], 36) := by decide +kernel
theorem dX4_doesNow_124 : decode cX4_doesNow 124 = .ok (.iload 4, 2) := by decide +kernel
theorem dX4_doesNow_126 : decode cX4_doesNow 126 = .ok (.ireturn, 1) := by decide +kernel
theorem dX4_doesNow_127 : decode cX4_doesNow 127 = .ok (.iload 5, 2) := by decide +kernel
theorem dX4_doesNow_129 : decode cX4_doesNow 129 = .ok (.ireturn, 1) := by decide +kernel
theorem dX4_doesNow_130 : decode cX4_doesNow 130 = .ok (.iconst 0, 1) := by decide +kernel
theorem dX4_doesNow_131 : decode cX4_doesNow 131 = .ok (.ireturn, 1) := by decide +kernel
theorem dX4_doesNow_132 : decode cX4_doesNow 132 = .ok (.iload_n 2, 1) := by decide +kernel
theorem dX4_doesNow_133 : decode cX4_doesNow 133 = .ok (.iconst 4, 1) := by decide +kernel
theorem dX4_doesNow_134 : decode cX4_doesNow 134 = .ok (.if_icmp .eq 17, 3) := by decide +kernel
theorem dX4_doesNow_137 : decode cX4_doesNow 137 = .ok (.aload_n 0, 1) := by decide +kernel
theorem dX4_doesNow_138 : decode cX4_doesNow 138 = .ok (.getfield 7, 3) := by decide +kernel
theorem dX4_doesNow_141 : decode cX4_doesNow 141 = .ok (.iconst 2, 1) := by decide +kernel
theorem dX4_doesNow_142 : decode cX4_doesNow 142 = .ok (.iaload, 1) := by decide +kernel
theorem dX4_doesNow_143 : decode cX4_doesNow 143 = .ok (.bipush 8, 2) := by decide +kernel
theorem dX4_doesNow_145 : decode cX4_doesNow 145 = .ok (.irem, 1) := by decide +kernel
theorem dX4_doesNow_146 : decode cX4_doesNow 146 = .ok (.bipush 7, 2) := by decide +kernel
theorem dX4_doesNow_148 : decode cX4_doesNow 148 = .ok (.if_icmp .ne 7, 3) := by decide +kernel
theorem dX4_doesNow_151 : decode cX4_doesNow 151 = .ok (.iconst 4, 1) := by decide +kernel
theorem dX4_doesNow_152 : decode cX4_doesNow 152 = .ok (.goto 5, 3) := by decide +kernel
theorem dX4_doesNow_155 : decode cX4_doesNow 155 = .ok (.iload 4, 2) := by decide +kernel
theorem dX4_doesNow_157 : decode cX4_doesNow 157 = .ok (.ireturn, 1) := by decide +kernel
theorem dX4_doesNow_158 : decode cX4_doesNow 158 = .ok (.aload_n 0, 1) := by decide +kernel
theorem dX4_doesNow_159 : decode cX4_doesNow 159 = .ok (.iload_n 1, 1) := by decide +kernel
theorem dX4_doesNow_160 : decode cX4_doesNow 160 = .ok (.iconst 1, 1) := by decide +kernel
theorem dX4_doesNow_161 : decode cX4_doesNow 161 = .ok (.invokevirtual 58, 3) := by decide +kernel
theorem dX4_doesNow_164 : decode cX4_doesNow 164 = .ok (.ifCond .eq 7, 3) := by decide +kernel
theorem dX4_doesNow_167 : decode cX4_doesNow 167 = .ok (.iconst 1, 1) := by decide +kernel
theorem dX4_doesNow_168 : decode cX4_doesNow 168 = .ok (.goto 5, 3) := by decide +kernel
theorem dX4_doesNow_171 : decode cX4_doesNow 171 = .ok (.iload 5, 2) := by decide +kernel
theorem dX4_doesNow_173 : decode cX4_doesNow 173 = .ok (.ireturn, 1) := by decide +kernel
theorem dX4_doesNow_174 : decode cX4_doesNow 174 = .ok (.iload_n 3, 1) := by decide +kernel
theorem dX4_doesNow_175 : decode cX4_doesNow 175 = .ok (.ireturn, 1) := by decide +kernel
theorem dX4_scoresFor_0 : decode cX4_scoresFor 0 = .ok (.iload_n 2, 1) := by decide +kernel
theorem dX4_scoresFor_1 : decode cX4_scoresFor 1 = .ok (.iload_n 3, 1) := by decide +kernel
theorem dX4_scoresFor_2 : decode cX4_scoresFor 2 = .ok (.if_icmp .ne 7, 3) := by decide +kernel
theorem dX4_scoresFor_5 : decode cX4_scoresFor 5 = .ok (.iconst 3, 1) := by decide +kernel
theorem dX4_scoresFor_6 : decode cX4_scoresFor 6 = .ok (.goto 13, 3) := by decide +kernel
theorem dX4_scoresFor_9 : decode cX4_scoresFor 9 = .ok (.iload_n 2, 1) := by decide +kernel
theorem dX4_scoresFor_10 : decode cX4_scoresFor 10 = .ok (.ifCond .ne 7, 3) := by decide +kernel
theorem dX4_scoresFor_13 : decode cX4_scoresFor 13 = .ok (.iconst (-1), 1) := by decide +kernel
theorem dX4_scoresFor_14 : decode cX4_scoresFor 14 = .ok (.goto 5, 3) := by decide +kernel
theorem dX4_scoresFor_17 : decode cX4_scoresFor 17 = .ok (.bipush (-2), 2) := by decide +kernel
theorem dX4_scoresFor_19 : decode cX4_scoresFor 19 = .ok (.istore 4, 2) := by decide +kernel
theorem dX4_scoresFor_21 : decode cX4_scoresFor 21 = .ok (.iload_n 2, 1) := by decide +kernel
theorem dX4_scoresFor_22 : decode cX4_scoresFor 22 = .ok (.iconst 3, 1) := by decide +kernel
theorem dX4_scoresFor_23 : decode cX4_scoresFor 23 = .ok (.if_icmp .ne 12, 3) := by decide +kernel
theorem dX4_scoresFor_26 : decode cX4_scoresFor 26 = .ok (.iload_n 3, 1) := by decide +kernel
theorem dX4_scoresFor_27 : decode cX4_scoresFor 27 = .ok (.iconst 3, 1) := by decide +kernel
theorem dX4_scoresFor_28 : decode cX4_scoresFor 28 = .ok (.if_icmp .ne 7, 3) := by decide +kernel
theorem dX4_scoresFor_31 : decode cX4_scoresFor 31 = .ok (.iconst 5, 1) := by decide +kernel
theorem dX4_scoresFor_32 : decode cX4_scoresFor 32 = .ok (.goto 5, 3) := by decide +kernel
theorem dX4_scoresFor_35 : decode cX4_scoresFor 35 = .ok (.iload 4, 2) := by decide +kernel
theorem dX4_scoresFor_37 : decode cX4_scoresFor 37 = .ok (.istore 5, 2) := by decide +kernel
theorem dX4_scoresFor_39 : decode cX4_scoresFor 39 = .ok (.iload 4, 2) := by decide +kernel
theorem dX4_scoresFor_41 : decode cX4_scoresFor 41 = .ok (.iload_n 2, 1) := by decide +kernel
theorem dX4_scoresFor_42 : decode cX4_scoresFor 42 = .ok (.iconst 1, 1) := by decide +kernel
theorem dX4_scoresFor_43 : decode cX4_scoresFor 43 = .ok (.if_icmp .ne 7, 3) := by decide +kernel
theorem dX4_scoresFor_46 : decode cX4_scoresFor 46 = .ok (.iconst 1, 1) := by decide +kernel
theorem dX4_scoresFor_47 : decode cX4_scoresFor 47 = .ok (.goto 4, 3) := by decide +kernel
theorem dX4_scoresFor_50 : decode cX4_scoresFor 50 = .ok (.iconst 0, 1) := by decide +kernel
theorem dX4_scoresFor_51 : decode cX4_scoresFor 51 = .ok (.iadd, 1) := by decide +kernel
theorem dX4_scoresFor_52 : decode cX4_scoresFor 52 = .ok (.istore 6, 2) := by decide +kernel
theorem dX4_scoresFor_54 : decode cX4_scoresFor 54 = .ok (.aload_n 0, 1) := by decide +kernel
theorem dX4_scoresFor_55 : decode cX4_scoresFor 55 = .ok (.iload_n 1, 1) := by decide +kernel
theorem dX4_scoresFor_56 : decode cX4_scoresFor 56 = .ok (.iconst 0, 1) := by decide +kernel
theorem dX4_scoresFor_57 : decode cX4_scoresFor 57 = .ok (.invokevirtual 54, 3) := by decide +kernel
theorem dX4_scoresFor_60 : decode cX4_scoresFor 60 = .ok (.tableswitch 76 1 5 #[36, 39, 42, 53, 67], 36) := by decide +kernel
theorem dX4_scoresFor_96 : decode cX4_scoresFor 96 = .ok (.iload 5, 2) := by decide +kernel
theorem dX4_scoresFor_98 : decode cX4_scoresFor 98 = .ok (.ireturn, 1) := by decide +kernel
theorem dX4_scoresFor_99 : decode cX4_scoresFor 99 = .ok (.iload 6, 2) := by decide +kernel
theorem dX4_scoresFor_101 : decode cX4_scoresFor 101 = .ok (.ireturn, 1) := by decide +kernel
theorem dX4_scoresFor_102 : decode cX4_scoresFor 102 = .ok (.iload_n 3, 1) := by decide +kernel
theorem dX4_scoresFor_103 : decode cX4_scoresFor 103 = .ok (.ifCond .ne 7, 3) := by decide +kernel
theorem dX4_scoresFor_106 : decode cX4_scoresFor 106 = .ok (.iconst 1, 1) := by decide +kernel
theorem dX4_scoresFor_107 : decode cX4_scoresFor 107 = .ok (.goto 5, 3) := by decide +kernel
theorem dX4_scoresFor_110 : decode cX4_scoresFor 110 = .ok (.bipush (-3), 2) := by decide +kernel
theorem dX4_scoresFor_112 : decode cX4_scoresFor 112 = .ok (.ireturn, 1) := by decide +kernel
theorem dX4_scoresFor_113 : decode cX4_scoresFor 113 = .ok (.iload 5, 2) := by decide +kernel
theorem dX4_scoresFor_115 : decode cX4_scoresFor 115 = .ok (.iload_n 2, 1) := by decide +kernel
theorem dX4_scoresFor_116 : decode cX4_scoresFor 116 = .ok (.iconst 4, 1) := by decide +kernel
theorem dX4_scoresFor_117 : decode cX4_scoresFor 117 = .ok (.if_icmp .ne 7, 3) := by decide +kernel
theorem dX4_scoresFor_120 : decode cX4_scoresFor 120 = .ok (.iconst 2, 1) := by decide +kernel
theorem dX4_scoresFor_121 : decode cX4_scoresFor 121 = .ok (.goto 4, 3) := by decide +kernel
theorem dX4_scoresFor_124 : decode cX4_scoresFor 124 = .ok (.iconst 0, 1) := by decide +kernel
theorem dX4_scoresFor_125 : decode cX4_scoresFor 125 = .ok (.isub, 1) := by decide +kernel
theorem dX4_scoresFor_126 : decode cX4_scoresFor 126 = .ok (.ireturn, 1) := by decide +kernel
theorem dX4_scoresFor_127 : decode cX4_scoresFor 127 = .ok (.iload 6, 2) := by decide +kernel
theorem dX4_scoresFor_129 : decode cX4_scoresFor 129 = .ok (.iconst 0, 1) := by decide +kernel
theorem dX4_scoresFor_130 : decode cX4_scoresFor 130 = .ok (.bipush 99, 2) := by decide +kernel
theorem dX4_scoresFor_132 : decode cX4_scoresFor 132 = .ok (.invokestatic 62, 3) := by decide +kernel
theorem dX4_scoresFor_135 : decode cX4_scoresFor 135 = .ok (.ireturn, 1) := by decide +kernel
theorem dX4_scoresFor_136 : decode cX4_scoresFor 136 = .ok (.iload 4, 2) := by decide +kernel
theorem dX4_scoresFor_138 : decode cX4_scoresFor 138 = .ok (.ireturn, 1) := by decide +kernel
theorem dX4_stales_0 : decode cX4_stales 0 = .ok (.aload_n 0, 1) := by decide +kernel
theorem dX4_stales_1 : decode cX4_stales 1 = .ok (.iload_n 1, 1) := by decide +kernel
theorem dX4_stales_2 : decode cX4_stales 2 = .ok (.iconst 0, 1) := by decide +kernel
theorem dX4_stales_3 : decode cX4_stales 3 = .ok (.invokevirtual 54, 3) := by decide +kernel
theorem dX4_stales_6 : decode cX4_stales 6 = .ok (.tableswitch 46 1 5 #[34, 36, 39, 42, 44], 34) := by decide +kernel
theorem dX4_stales_40 : decode cX4_stales 40 = .ok (.iconst 3, 1) := by decide +kernel
theorem dX4_stales_41 : decode cX4_stales 41 = .ok (.ireturn, 1) := by decide +kernel
theorem dX4_stales_42 : decode cX4_stales 42 = .ok (.bipush 8, 2) := by decide +kernel
theorem dX4_stales_44 : decode cX4_stales 44 = .ok (.ireturn, 1) := by decide +kernel
theorem dX4_stales_45 : decode cX4_stales 45 = .ok (.bipush (-5), 2) := by decide +kernel
theorem dX4_stales_47 : decode cX4_stales 47 = .ok (.ireturn, 1) := by decide +kernel
theorem dX4_stales_48 : decode cX4_stales 48 = .ok (.iconst 0, 1) := by decide +kernel
theorem dX4_stales_49 : decode cX4_stales 49 = .ok (.ireturn, 1) := by decide +kernel
theorem dX4_stales_50 : decode cX4_stales 50 = .ok (.iconst 5, 1) := by decide +kernel
theorem dX4_stales_51 : decode cX4_stales 51 = .ok (.ireturn, 1) := by decide +kernel
theorem dX4_stales_52 : decode cX4_stales 52 = .ok (.iconst 4, 1) := by decide +kernel
theorem dX4_stales_53 : decode cX4_stales 53 = .ok (.ireturn, 1) := by decide +kernel
theorem dX4_momentGoes_0 : decode cX4_momentGoes 0 = .ok (.aload_n 0, 1) := by decide +kernel
theorem dX4_momentGoes_1 : decode cX4_momentGoes 1 = .ok (.getfield 7, 3) := by decide +kernel
theorem dX4_momentGoes_4 : decode cX4_momentGoes 4 = .ok (.iconst 3, 1) := by decide +kernel
theorem dX4_momentGoes_5 : decode cX4_momentGoes 5 = .ok (.aload_n 0, 1) := by decide +kernel
theorem dX4_momentGoes_6 : decode cX4_momentGoes 6 = .ok (.getfield 7, 3) := by decide +kernel
theorem dX4_momentGoes_9 : decode cX4_momentGoes 9 = .ok (.iconst 2, 1) := by decide +kernel
theorem dX4_momentGoes_10 : decode cX4_momentGoes 10 = .ok (.iaload, 1) := by decide +kernel
theorem dX4_momentGoes_11 : decode cX4_momentGoes 11 = .ok (.iadd, 1) := by decide +kernel
theorem dX4_momentGoes_12 : decode cX4_momentGoes 12 = .ok (.iaload, 1) := by decide +kernel
theorem dX4_momentGoes_13 : decode cX4_momentGoes 13 = .ok (.istore_n 1, 1) := by decide +kernel
theorem dX4_momentGoes_14 : decode cX4_momentGoes 14 = .ok (.iconst 0, 1) := by decide +kernel
theorem dX4_momentGoes_15 : decode cX4_momentGoes 15 = .ok (.istore_n 2, 1) := by decide +kernel
theorem dX4_momentGoes_16 : decode cX4_momentGoes 16 = .ok (.iload_n 2, 1) := by decide +kernel
theorem dX4_momentGoes_17 : decode cX4_momentGoes 17 = .ok (.aload_n 0, 1) := by decide +kernel
theorem dX4_momentGoes_18 : decode cX4_momentGoes 18 = .ok (.getfield 7, 3) := by decide +kernel
theorem dX4_momentGoes_21 : decode cX4_momentGoes 21 = .ok (.iconst 0, 1) := by decide +kernel
theorem dX4_momentGoes_22 : decode cX4_momentGoes 22 = .ok (.iaload, 1) := by decide +kernel
theorem dX4_momentGoes_23 : decode cX4_momentGoes 23 = .ok (.if_icmp .ge 20, 3) := by decide +kernel
theorem dX4_momentGoes_26 : decode cX4_momentGoes 26 = .ok (.aload_n 0, 1) := by decide +kernel
theorem dX4_momentGoes_27 : decode cX4_momentGoes 27 = .ok (.getfield 29, 3) := by decide +kernel
theorem dX4_momentGoes_30 : decode cX4_momentGoes 30 = .ok (.iload_n 2, 1) := by decide +kernel
theorem dX4_momentGoes_31 : decode cX4_momentGoes 31 = .ok (.aload_n 0, 1) := by decide +kernel
theorem dX4_momentGoes_32 : decode cX4_momentGoes 32 = .ok (.iload_n 2, 1) := by decide +kernel
theorem dX4_momentGoes_33 : decode cX4_momentGoes 33 = .ok (.invokevirtual 66, 3) := by decide +kernel
theorem dX4_momentGoes_36 : decode cX4_momentGoes 36 = .ok (.iastore, 1) := by decide +kernel
theorem dX4_momentGoes_37 : decode cX4_momentGoes 37 = .ok (.iinc 2 1, 3) := by decide +kernel
theorem dX4_momentGoes_40 : decode cX4_momentGoes 40 = .ok (.goto (-24), 3) := by decide +kernel
theorem dX4_momentGoes_43 : decode cX4_momentGoes 43 = .ok (.iconst 0, 1) := by decide +kernel
theorem dX4_momentGoes_44 : decode cX4_momentGoes 44 = .ok (.istore_n 2, 1) := by decide +kernel
theorem dX4_momentGoes_45 : decode cX4_momentGoes 45 = .ok (.iload_n 2, 1) := by decide +kernel
theorem dX4_momentGoes_46 : decode cX4_momentGoes 46 = .ok (.aload_n 0, 1) := by decide +kernel
theorem dX4_momentGoes_47 : decode cX4_momentGoes 47 = .ok (.getfield 7, 3) := by decide +kernel
theorem dX4_momentGoes_50 : decode cX4_momentGoes 50 = .ok (.iconst 0, 1) := by decide +kernel
theorem dX4_momentGoes_51 : decode cX4_momentGoes 51 = .ok (.iaload, 1) := by decide +kernel
theorem dX4_momentGoes_52 : decode cX4_momentGoes 52 = .ok (.if_icmp .ge 55, 3) := by decide +kernel
theorem dX4_momentGoes_55 : decode cX4_momentGoes 55 = .ok (.aload_n 0, 1) := by decide +kernel
theorem dX4_momentGoes_56 : decode cX4_momentGoes 56 = .ok (.iload_n 2, 1) := by decide +kernel
theorem dX4_momentGoes_57 : decode cX4_momentGoes 57 = .ok (.iconst 2, 1) := by decide +kernel
theorem dX4_momentGoes_58 : decode cX4_momentGoes 58 = .ok (.aload_n 0, 1) := by decide +kernel
theorem dX4_momentGoes_59 : decode cX4_momentGoes 59 = .ok (.iload_n 2, 1) := by decide +kernel
theorem dX4_momentGoes_60 : decode cX4_momentGoes 60 = .ok (.iconst 2, 1) := by decide +kernel
theorem dX4_momentGoes_61 : decode cX4_momentGoes 61 = .ok (.invokevirtual 54, 3) := by decide +kernel
theorem dX4_momentGoes_64 : decode cX4_momentGoes 64 = .ok (.aload_n 0, 1) := by decide +kernel
theorem dX4_momentGoes_65 : decode cX4_momentGoes 65 = .ok (.iload_n 2, 1) := by decide +kernel
theorem dX4_momentGoes_66 : decode cX4_momentGoes 66 = .ok (.aload_n 0, 1) := by decide +kernel
theorem dX4_momentGoes_67 : decode cX4_momentGoes 67 = .ok (.getfield 29, 3) := by decide +kernel
theorem dX4_momentGoes_70 : decode cX4_momentGoes 70 = .ok (.iload_n 2, 1) := by decide +kernel
theorem dX4_momentGoes_71 : decode cX4_momentGoes 71 = .ok (.iaload, 1) := by decide +kernel
theorem dX4_momentGoes_72 : decode cX4_momentGoes 72 = .ok (.iload_n 1, 1) := by decide +kernel
theorem dX4_momentGoes_73 : decode cX4_momentGoes 73 = .ok (.invokevirtual 70, 3) := by decide +kernel
theorem dX4_momentGoes_76 : decode cX4_momentGoes 76 = .ok (.iadd, 1) := by decide +kernel
theorem dX4_momentGoes_77 : decode cX4_momentGoes 77 = .ok (.sipush (-9999), 3) := by decide +kernel
theorem dX4_momentGoes_80 : decode cX4_momentGoes 80 = .ok (.sipush 9999, 3) := by decide +kernel
theorem dX4_momentGoes_83 : decode cX4_momentGoes 83 = .ok (.invokestatic 62, 3) := by decide +kernel
theorem dX4_momentGoes_86 : decode cX4_momentGoes 86 = .ok (.invokevirtual 73, 3) := by decide +kernel
theorem dX4_momentGoes_89 : decode cX4_momentGoes 89 = .ok (.aload_n 0, 1) := by decide +kernel
theorem dX4_momentGoes_90 : decode cX4_momentGoes 90 = .ok (.iload_n 2, 1) := by decide +kernel
theorem dX4_momentGoes_91 : decode cX4_momentGoes 91 = .ok (.iconst 3, 1) := by decide +kernel
theorem dX4_momentGoes_92 : decode cX4_momentGoes 92 = .ok (.aload_n 0, 1) := by decide +kernel
theorem dX4_momentGoes_93 : decode cX4_momentGoes 93 = .ok (.getfield 29, 3) := by decide +kernel
theorem dX4_momentGoes_96 : decode cX4_momentGoes 96 = .ok (.iload_n 2, 1) := by decide +kernel
theorem dX4_momentGoes_97 : decode cX4_momentGoes 97 = .ok (.iaload, 1) := by decide +kernel
theorem dX4_momentGoes_98 : decode cX4_momentGoes 98 = .ok (.invokevirtual 73, 3) := by decide +kernel
theorem dX4_momentGoes_101 : decode cX4_momentGoes 101 = .ok (.iinc 2 1, 3) := by decide +kernel
theorem dX4_momentGoes_104 : decode cX4_momentGoes 104 = .ok (.goto (-59), 3) := by decide +kernel
theorem dX4_momentGoes_107 : decode cX4_momentGoes 107 = .ok (.aload_n 0, 1) := by decide +kernel
theorem dX4_momentGoes_108 : decode cX4_momentGoes 108 = .ok (.getfield 7, 3) := by decide +kernel
theorem dX4_momentGoes_111 : decode cX4_momentGoes 111 = .ok (.iconst 2, 1) := by decide +kernel
theorem dX4_momentGoes_112 : decode cX4_momentGoes 112 = .ok (.aload_n 0, 1) := by decide +kernel
theorem dX4_momentGoes_113 : decode cX4_momentGoes 113 = .ok (.getfield 7, 3) := by decide +kernel
theorem dX4_momentGoes_116 : decode cX4_momentGoes 116 = .ok (.iconst 2, 1) := by decide +kernel
theorem dX4_momentGoes_117 : decode cX4_momentGoes 117 = .ok (.iaload, 1) := by decide +kernel
theorem dX4_momentGoes_118 : decode cX4_momentGoes 118 = .ok (.iconst 1, 1) := by decide +kernel
theorem dX4_momentGoes_119 : decode cX4_momentGoes 119 = .ok (.iadd, 1) := by decide +kernel
theorem dX4_momentGoes_120 : decode cX4_momentGoes 120 = .ok (.bipush 16, 2) := by decide +kernel
theorem dX4_momentGoes_122 : decode cX4_momentGoes 122 = .ok (.irem, 1) := by decide +kernel
theorem dX4_momentGoes_123 : decode cX4_momentGoes 123 = .ok (.iastore, 1) := by decide +kernel
theorem dX4_momentGoes_124 : decode cX4_momentGoes 124 = .ok (.aload_n 0, 1) := by decide +kernel
theorem dX4_momentGoes_125 : decode cX4_momentGoes 125 = .ok (.getfield 7, 3) := by decide +kernel
theorem dX4_momentGoes_128 : decode cX4_momentGoes 128 = .ok (.iconst 2, 1) := by decide +kernel
theorem dX4_momentGoes_129 : decode cX4_momentGoes 129 = .ok (.iaload, 1) := by decide +kernel
theorem dX4_momentGoes_130 : decode cX4_momentGoes 130 = .ok (.ifCond .ne 62, 3) := by decide +kernel
theorem dX4_momentGoes_133 : decode cX4_momentGoes 133 = .ok (.iconst 0, 1) := by decide +kernel
theorem dX4_momentGoes_134 : decode cX4_momentGoes 134 = .ok (.istore_n 2, 1) := by decide +kernel
theorem dX4_momentGoes_135 : decode cX4_momentGoes 135 = .ok (.iload_n 2, 1) := by decide +kernel
theorem dX4_momentGoes_136 : decode cX4_momentGoes 136 = .ok (.aload_n 0, 1) := by decide +kernel
theorem dX4_momentGoes_137 : decode cX4_momentGoes 137 = .ok (.getfield 7, 3) := by decide +kernel
theorem dX4_momentGoes_140 : decode cX4_momentGoes 140 = .ok (.iconst 0, 1) := by decide +kernel
theorem dX4_momentGoes_141 : decode cX4_momentGoes 141 = .ok (.iaload, 1) := by decide +kernel
theorem dX4_momentGoes_142 : decode cX4_momentGoes 142 = .ok (.if_icmp .ge 40, 3) := by decide +kernel
theorem dX4_momentGoes_145 : decode cX4_momentGoes 145 = .ok (.aload_n 0, 1) := by decide +kernel
theorem dX4_momentGoes_146 : decode cX4_momentGoes 146 = .ok (.iload_n 2, 1) := by decide +kernel
theorem dX4_momentGoes_147 : decode cX4_momentGoes 147 = .ok (.iconst 1, 1) := by decide +kernel
theorem dX4_momentGoes_148 : decode cX4_momentGoes 148 = .ok (.aload_n 0, 1) := by decide +kernel
theorem dX4_momentGoes_149 : decode cX4_momentGoes 149 = .ok (.iload_n 2, 1) := by decide +kernel
theorem dX4_momentGoes_150 : decode cX4_momentGoes 150 = .ok (.iconst 1, 1) := by decide +kernel
theorem dX4_momentGoes_151 : decode cX4_momentGoes 151 = .ok (.invokevirtual 54, 3) := by decide +kernel
theorem dX4_momentGoes_154 : decode cX4_momentGoes 154 = .ok (.aload_n 0, 1) := by decide +kernel
theorem dX4_momentGoes_155 : decode cX4_momentGoes 155 = .ok (.iload_n 2, 1) := by decide +kernel
theorem dX4_momentGoes_156 : decode cX4_momentGoes 156 = .ok (.invokevirtual 77, 3) := by decide +kernel
theorem dX4_momentGoes_159 : decode cX4_momentGoes 159 = .ok (.isub, 1) := by decide +kernel
theorem dX4_momentGoes_160 : decode cX4_momentGoes 160 = .ok (.iconst 0, 1) := by decide +kernel
theorem dX4_momentGoes_161 : decode cX4_momentGoes 161 = .ok (.bipush 99, 2) := by decide +kernel
theorem dX4_momentGoes_163 : decode cX4_momentGoes 163 = .ok (.invokestatic 62, 3) := by decide +kernel
theorem dX4_momentGoes_166 : decode cX4_momentGoes 166 = .ok (.invokevirtual 73, 3) := by decide +kernel
theorem dX4_momentGoes_169 : decode cX4_momentGoes 169 = .ok (.aload_n 0, 1) := by decide +kernel
theorem dX4_momentGoes_170 : decode cX4_momentGoes 170 = .ok (.iload_n 2, 1) := by decide +kernel
theorem dX4_momentGoes_171 : decode cX4_momentGoes 171 = .ok (.iconst 3, 1) := by decide +kernel
theorem dX4_momentGoes_172 : decode cX4_momentGoes 172 = .ok (.iconst 0, 1) := by decide +kernel
theorem dX4_momentGoes_173 : decode cX4_momentGoes 173 = .ok (.invokevirtual 73, 3) := by decide +kernel
theorem dX4_momentGoes_176 : decode cX4_momentGoes 176 = .ok (.iinc 2 1, 3) := by decide +kernel
theorem dX4_momentGoes_179 : decode cX4_momentGoes 179 = .ok (.goto (-44), 3) := by decide +kernel
theorem dX4_momentGoes_182 : decode cX4_momentGoes 182 = .ok (.aload_n 0, 1) := by decide +kernel
theorem dX4_momentGoes_183 : decode cX4_momentGoes 183 = .ok (.getfield 7, 3) := by decide +kernel
theorem dX4_momentGoes_186 : decode cX4_momentGoes 186 = .ok (.iconst 1, 1) := by decide +kernel
theorem dX4_momentGoes_187 : decode cX4_momentGoes 187 = .ok (.dup2, 1) := by decide +kernel
theorem dX4_momentGoes_188 : decode cX4_momentGoes 188 = .ok (.iaload, 1) := by decide +kernel
theorem dX4_momentGoes_189 : decode cX4_momentGoes 189 = .ok (.iconst 1, 1) := by decide +kernel
theorem dX4_momentGoes_190 : decode cX4_momentGoes 190 = .ok (.iadd, 1) := by decide +kernel
theorem dX4_momentGoes_191 : decode cX4_momentGoes 191 = .ok (.iastore, 1) := by decide +kernel
theorem dX4_momentGoes_192 : decode cX4_momentGoes 192 = .ok (.return_, 1) := by decide +kernel
theorem dX4_momentsGo_0 : decode cX4_momentsGo 0 = .ok (.iconst 0, 1) := by decide +kernel
theorem dX4_momentsGo_1 : decode cX4_momentsGo 1 = .ok (.istore_n 2, 1) := by decide +kernel
theorem dX4_momentsGo_2 : decode cX4_momentsGo 2 = .ok (.iload_n 2, 1) := by decide +kernel
theorem dX4_momentsGo_3 : decode cX4_momentsGo 3 = .ok (.iload_n 1, 1) := by decide +kernel
theorem dX4_momentsGo_4 : decode cX4_momentsGo 4 = .ok (.if_icmp .ge 13, 3) := by decide +kernel
theorem dX4_momentsGo_7 : decode cX4_momentsGo 7 = .ok (.aload_n 0, 1) := by decide +kernel
theorem dX4_momentsGo_8 : decode cX4_momentsGo 8 = .ok (.invokevirtual 80, 3) := by decide +kernel
theorem dX4_momentsGo_11 : decode cX4_momentsGo 11 = .ok (.iinc 2 1, 3) := by decide +kernel
theorem dX4_momentsGo_14 : decode cX4_momentsGo 14 = .ok (.goto (-12), 3) := by decide +kernel
theorem dX4_momentsGo_17 : decode cX4_momentsGo 17 = .ok (.return_, 1) := by decide +kernel
theorem dX4_sumOf_0 : decode cX4_sumOf 0 = .ok (.iconst 0, 1) := by decide +kernel
theorem dX4_sumOf_1 : decode cX4_sumOf 1 = .ok (.istore_n 2, 1) := by decide +kernel
theorem dX4_sumOf_2 : decode cX4_sumOf 2 = .ok (.iconst 0, 1) := by decide +kernel
theorem dX4_sumOf_3 : decode cX4_sumOf 3 = .ok (.istore_n 3, 1) := by decide +kernel
