theorem dX4_best_75 : decode cX4_best 75 = .ok (.getfield 16, 3) := by decide +kernel
theorem dX4_best_78 : decode cX4_best 78 = .ok (.aload_n 0, 1) := by decide +kernel
theorem dX4_best_79 : decode cX4_best 79 = .ok (.getfield 7, 3) := by decide +kernel
theorem dX4_best_82 : decode cX4_best 82 = .ok (.invokestatic 129, 3) := by decide +kernel
theorem dX4_best_85 : decode cX4_best 85 = .ok (.iload_n 2, 1) := by decide +kernel
theorem dX4_best_86 : decode cX4_best 86 = .ok (.ifCond .ge 11, 3) := by decide +kernel
theorem dX4_best_89 : decode cX4_best 89 = .ok (.aload_n 0, 1) := by decide +kernel
theorem dX4_best_90 : decode cX4_best 90 = .ok (.iconst 3, 1) := by decide +kernel
theorem dX4_best_91 : decode cX4_best 91 = .ok (.invokevirtual 92, 3) := by decide +kernel
theorem dX4_best_94 : decode cX4_best 94 = .ok (.goto 4, 3) := by decide +kernel
theorem dX4_best_97 : decode cX4_best 97 = .ok (.iload_n 2, 1) := by decide +kernel
theorem dX4_best_98 : decode cX4_best 98 = .ok (.ireturn, 1) := by decide +kernel
theorem dX4_feed_0 : decode cX4_feed 0 = .ok (.iload_n 2, 1) := by decide +kernel
theorem dX4_feed_1 : decode cX4_feed 1 = .ok (.i2l, 1) := by decide +kernel
theorem dX4_feed_2 : decode cX4_feed 2 = .ok (.lconst 1, 1) := by decide +kernel
theorem dX4_feed_3 : decode cX4_feed 3 = .ok (.ldc2_w 85, 3) := by decide +kernel
theorem dX4_feed_6 : decode cX4_feed 6 = .ok (.invokestatic 46, 3) := by decide +kernel
theorem dX4_feed_9 : decode cX4_feed 9 = .ok (.ifCond .ne 9, 3) := by decide +kernel
theorem dX4_feed_12 : decode cX4_feed 12 = .ok (.aload_n 0, 1) := by decide +kernel
theorem dX4_feed_13 : decode cX4_feed 13 = .ok (.iconst 0, 1) := by decide +kernel
theorem dX4_feed_14 : decode cX4_feed 14 = .ok (.invokevirtual 92, 3) := by decide +kernel
theorem dX4_feed_17 : decode cX4_feed 17 = .ok (.ireturn, 1) := by decide +kernel
theorem dX4_feed_18 : decode cX4_feed 18 = .ok (.aload_n 0, 1) := by decide +kernel
theorem dX4_feed_19 : decode cX4_feed 19 = .ok (.getfield 156, 3) := by decide +kernel
theorem dX4_feed_22 : decode cX4_feed 22 = .ok (.iload_n 2, 1) := by decide +kernel
theorem dX4_feed_23 : decode cX4_feed 23 = .ok (.iadd, 1) := by decide +kernel
theorem dX4_feed_24 : decode cX4_feed 24 = .ok (.bipush 120, 2) := by decide +kernel
theorem dX4_feed_26 : decode cX4_feed 26 = .ok (.if_icmp .le 9, 3) := by decide +kernel
theorem dX4_feed_29 : decode cX4_feed 29 = .ok (.aload_n 0, 1) := by decide +kernel
theorem dX4_feed_30 : decode cX4_feed 30 = .ok (.iconst 1, 1) := by decide +kernel
theorem dX4_feed_31 : decode cX4_feed 31 = .ok (.invokevirtual 92, 3) := by decide +kernel
theorem dX4_feed_34 : decode cX4_feed 34 = .ok (.ireturn, 1) := by decide +kernel
theorem dX4_feed_35 : decode cX4_feed 35 = .ok (.iload_n 2, 1) := by decide +kernel
theorem dX4_feed_36 : decode cX4_feed 36 = .ok (.iconst 1, 1) := by decide +kernel
theorem dX4_feed_37 : decode cX4_feed 37 = .ok (.isub, 1) := by decide +kernel
theorem dX4_feed_38 : decode cX4_feed 38 = .ok (.istore_n 3, 1) := by decide +kernel
theorem dX4_feed_39 : decode cX4_feed 39 = .ok (.iload_n 3, 1) := by decide +kernel
theorem dX4_feed_40 : decode cX4_feed 40 = .ok (.ifCond .lt 35, 3) := by decide +kernel
theorem dX4_feed_43 : decode cX4_feed 43 = .ok (.aload_n 0, 1) := by decide +kernel
theorem dX4_feed_44 : decode cX4_feed 44 = .ok (.getfield 25, 3) := by decide +kernel
theorem dX4_feed_47 : decode cX4_feed 47 = .ok (.aload_n 0, 1) := by decide +kernel
theorem dX4_feed_48 : decode cX4_feed 48 = .ok (.getfield 156, 3) := by decide +kernel
theorem dX4_feed_51 : decode cX4_feed 51 = .ok (.iload_n 1, 1) := by decide +kernel
theorem dX4_feed_52 : decode cX4_feed 52 = .ok (.bipush 8, 2) := by decide +kernel
theorem dX4_feed_54 : decode cX4_feed 54 = .ok (.iload_n 3, 1) := by decide +kernel
theorem dX4_feed_55 : decode cX4_feed 55 = .ok (.imul, 1) := by decide +kernel
theorem dX4_feed_56 : decode cX4_feed 56 = .ok (.ishr, 1) := by decide +kernel
theorem dX4_feed_57 : decode cX4_feed 57 = .ok (.i2b, 1) := by decide +kernel
theorem dX4_feed_58 : decode cX4_feed 58 = .ok (.bastore, 1) := by decide +kernel
theorem dX4_feed_59 : decode cX4_feed 59 = .ok (.aload_n 0, 1) := by decide +kernel
theorem dX4_feed_60 : decode cX4_feed 60 = .ok (.dup, 1) := by decide +kernel
theorem dX4_feed_61 : decode cX4_feed 61 = .ok (.getfield 156, 3) := by decide +kernel
theorem dX4_feed_64 : decode cX4_feed 64 = .ok (.iconst 1, 1) := by decide +kernel
theorem dX4_feed_65 : decode cX4_feed 65 = .ok (.iadd, 1) := by decide +kernel
theorem dX4_feed_66 : decode cX4_feed 66 = .ok (.putfield 156, 3) := by decide +kernel
theorem dX4_feed_69 : decode cX4_feed 69 = .ok (.iinc 3 (-1), 3) := by decide +kernel
theorem dX4_feed_72 : decode cX4_feed 72 = .ok (.goto (-33), 3) := by decide +kernel
theorem dX4_feed_75 : decode cX4_feed 75 = .ok (.aload_n 0, 1) := by decide +kernel
theorem dX4_feed_76 : decode cX4_feed 76 = .ok (.getfield 156, 3) := by decide +kernel
theorem dX4_feed_79 : decode cX4_feed 79 = .ok (.ireturn, 1) := by decide +kernel
theorem dX4_wipe_0 : decode cX4_wipe 0 = .ok (.aload_n 0, 1) := by decide +kernel
theorem dX4_wipe_1 : decode cX4_wipe 1 = .ok (.getfield 156, 3) := by decide +kernel
theorem dX4_wipe_4 : decode cX4_wipe 4 = .ok (.istore_n 1, 1) := by decide +kernel
theorem dX4_wipe_5 : decode cX4_wipe 5 = .ok (.aload_n 0, 1) := by decide +kernel
theorem dX4_wipe_6 : decode cX4_wipe 6 = .ok (.iconst 0, 1) := by decide +kernel
theorem dX4_wipe_7 : decode cX4_wipe 7 = .ok (.putfield 156, 3) := by decide +kernel
theorem dX4_wipe_10 : decode cX4_wipe 10 = .ok (.iload_n 1, 1) := by decide +kernel
theorem dX4_wipe_11 : decode cX4_wipe 11 = .ok (.ireturn, 1) := by decide +kernel
theorem dX4_letter_0 : decode cX4_letter 0 = .ok (.iload_n 0, 1) := by decide +kernel
theorem dX4_letter_1 : decode cX4_letter 1 = .ok (.bipush 97, 2) := by decide +kernel
theorem dX4_letter_3 : decode cX4_letter 3 = .ok (.if_icmp .lt 18, 3) := by decide +kernel
theorem dX4_letter_6 : decode cX4_letter 6 = .ok (.iload_n 0, 1) := by decide +kernel
theorem dX4_letter_7 : decode cX4_letter 7 = .ok (.bipush 122, 2) := by decide +kernel
theorem dX4_letter_9 : decode cX4_letter 9 = .ok (.if_icmp .gt 12, 3) := by decide +kernel
theorem dX4_letter_12 : decode cX4_letter 12 = .ok (.iload_n 0, 1) := by decide +kernel
theorem dX4_letter_13 : decode cX4_letter 13 = .ok (.bipush 97, 2) := by decide +kernel
theorem dX4_letter_15 : decode cX4_letter 15 = .ok (.isub, 1) := by decide +kernel
theorem dX4_letter_16 : decode cX4_letter 16 = .ok (.iconst 1, 1) := by decide +kernel
theorem dX4_letter_17 : decode cX4_letter 17 = .ok (.iadd, 1) := by decide +kernel
theorem dX4_letter_18 : decode cX4_letter 18 = .ok (.goto 4, 3) := by decide +kernel
theorem dX4_letter_21 : decode cX4_letter 21 = .ok (.iconst 0, 1) := by decide +kernel
theorem dX4_letter_22 : decode cX4_letter 22 = .ok (.ireturn, 1) := by decide +kernel
theorem dX4_isDigit_0 : decode cX4_isDigit 0 = .ok (.iload_n 0, 1) := by decide +kernel
theorem dX4_isDigit_1 : decode cX4_isDigit 1 = .ok (.bipush 48, 2) := by decide +kernel
theorem dX4_isDigit_3 : decode cX4_isDigit 3 = .ok (.if_icmp .lt 13, 3) := by decide +kernel
theorem dX4_isDigit_6 : decode cX4_isDigit 6 = .ok (.iload_n 0, 1) := by decide +kernel
theorem dX4_isDigit_7 : decode cX4_isDigit 7 = .ok (.bipush 57, 2) := by decide +kernel
theorem dX4_isDigit_9 : decode cX4_isDigit 9 = .ok (.if_icmp .gt 7, 3) := by decide +kernel
theorem dX4_isDigit_12 : decode cX4_isDigit 12 = .ok (.iconst 1, 1) := by decide +kernel
theorem dX4_isDigit_13 : decode cX4_isDigit 13 = .ok (.goto 4, 3) := by decide +kernel
theorem dX4_isDigit_16 : decode cX4_isDigit 16 = .ok (.iconst 0, 1) := by decide +kernel
theorem dX4_isDigit_17 : decode cX4_isDigit 17 = .ok (.ireturn, 1) := by decide +kernel
theorem dX4_byteAt_0 : decode cX4_byteAt 0 = .ok (.iload_n 1, 1) := by decide +kernel
theorem dX4_byteAt_1 : decode cX4_byteAt 1 = .ok (.aload_n 0, 1) := by decide +kernel
theorem dX4_byteAt_2 : decode cX4_byteAt 2 = .ok (.getfield 156, 3) := by decide +kernel
theorem dX4_byteAt_5 : decode cX4_byteAt 5 = .ok (.if_icmp .ge 12, 3) := by decide +kernel
theorem dX4_byteAt_8 : decode cX4_byteAt 8 = .ok (.aload_n 0, 1) := by decide +kernel
theorem dX4_byteAt_9 : decode cX4_byteAt 9 = .ok (.getfield 25, 3) := by decide +kernel
theorem dX4_byteAt_12 : decode cX4_byteAt 12 = .ok (.iload_n 1, 1) := by decide +kernel
theorem dX4_byteAt_13 : decode cX4_byteAt 13 = .ok (.baload, 1) := by decide +kernel
theorem dX4_byteAt_14 : decode cX4_byteAt 14 = .ok (.goto 4, 3) := by decide +kernel
theorem dX4_byteAt_17 : decode cX4_byteAt 17 = .ok (.iconst (-1), 1) := by decide +kernel
theorem dX4_byteAt_18 : decode cX4_byteAt 18 = .ok (.ireturn, 1) := by decide +kernel
theorem dX4_next_0 : decode cX4_next 0 = .ok (.aload_n 0, 1) := by decide +kernel
theorem dX4_next_1 : decode cX4_next 1 = .ok (.aload_n 0, 1) := by decide +kernel
theorem dX4_next_2 : decode cX4_next 2 = .ok (.getfield 160, 3) := by decide +kernel
theorem dX4_next_5 : decode cX4_next 5 = .ok (.invokevirtual 163, 3) := by decide +kernel
theorem dX4_next_8 : decode cX4_next 8 = .ok (.bipush 32, 2) := by decide +kernel
theorem dX4_next_10 : decode cX4_next 10 = .ok (.if_icmp .ne 16, 3) := by decide +kernel
theorem dX4_next_13 : decode cX4_next 13 = .ok (.aload_n 0, 1) := by decide +kernel
theorem dX4_next_14 : decode cX4_next 14 = .ok (.dup, 1) := by decide +kernel
theorem dX4_next_15 : decode cX4_next 15 = .ok (.getfield 160, 3) := by decide +kernel
theorem dX4_next_18 : decode cX4_next 18 = .ok (.iconst 1, 1) := by decide +kernel
theorem dX4_next_19 : decode cX4_next 19 = .ok (.iadd, 1) := by decide +kernel
theorem dX4_next_20 : decode cX4_next 20 = .ok (.putfield 160, 3) := by decide +kernel
theorem dX4_next_23 : decode cX4_next 23 = .ok (.goto (-23), 3) := by decide +kernel
theorem dX4_next_26 : decode cX4_next 26 = .ok (.aload_n 0, 1) := by decide +kernel
theorem dX4_next_27 : decode cX4_next 27 = .ok (.aload_n 0, 1) := by decide +kernel
theorem dX4_next_28 : decode cX4_next 28 = .ok (.getfield 160, 3) := by decide +kernel
theorem dX4_next_31 : decode cX4_next 31 = .ok (.putfield 166, 3) := by decide +kernel
theorem dX4_next_34 : decode cX4_next 34 = .ok (.aload_n 0, 1) := by decide +kernel
theorem dX4_next_35 : decode cX4_next 35 = .ok (.lconst 0, 1) := by decide +kernel
theorem dX4_next_36 : decode cX4_next 36 = .ok (.putfield 169, 3) := by decide +kernel
theorem dX4_next_39 : decode cX4_next 39 = .ok (.aload_n 0, 1) := by decide +kernel
theorem dX4_next_40 : decode cX4_next 40 = .ok (.aload_n 0, 1) := by decide +kernel
theorem dX4_next_41 : decode cX4_next 41 = .ok (.getfield 160, 3) := by decide +kernel
theorem dX4_next_44 : decode cX4_next 44 = .ok (.invokevirtual 163, 3) := by decide +kernel
theorem dX4_next_47 : decode cX4_next 47 = .ok (.istore_n 1, 1) := by decide +kernel
theorem dX4_next_48 : decode cX4_next 48 = .ok (.aload_n 0, 1) := by decide +kernel
theorem dX4_next_49 : decode cX4_next 49 = .ok (.getfield 160, 3) := by decide +kernel
theorem dX4_next_52 : decode cX4_next 52 = .ok (.aload_n 0, 1) := by decide +kernel
theorem dX4_next_53 : decode cX4_next 53 = .ok (.getfield 156, 3) := by decide +kernel
theorem dX4_next_56 : decode cX4_next 56 = .ok (.if_icmp .ne 11, 3) := by decide +kernel
theorem dX4_next_59 : decode cX4_next 59 = .ok (.aload_n 0, 1) := by decide +kernel
theorem dX4_next_60 : decode cX4_next 60 = .ok (.iconst 0, 1) := by decide +kernel
theorem dX4_next_61 : decode cX4_next 61 = .ok (.putfield 173, 3) := by decide +kernel
theorem dX4_next_64 : decode cX4_next 64 = .ok (.goto 197, 3) := by decide +kernel
theorem dX4_next_67 : decode cX4_next 67 = .ok (.iload_n 1, 1) := by decide +kernel
theorem dX4_next_68 : decode cX4_next 68 = .ok (.bipush 59, 2) := by decide +kernel
theorem dX4_next_70 : decode cX4_next 70 = .ok (.if_icmp .ne 21, 3) := by decide +kernel
theorem dX4_next_73 : decode cX4_next 73 = .ok (.aload_n 0, 1) := by decide +kernel
theorem dX4_next_74 : decode cX4_next 74 = .ok (.iconst 3, 1) := by decide +kernel
theorem dX4_next_75 : decode cX4_next 75 = .ok (.putfield 173, 3) := by decide +kernel
theorem dX4_next_78 : decode cX4_next 78 = .ok (.aload_n 0, 1) := by decide +kernel
theorem dX4_next_79 : decode cX4_next 79 = .ok (.dup, 1) := by decide +kernel
theorem dX4_next_80 : decode cX4_next 80 = .ok (.getfield 160, 3) := by decide +kernel
theorem dX4_next_83 : decode cX4_next 83 = .ok (.iconst 1, 1) := by decide +kernel
theorem dX4_next_84 : decode cX4_next 84 = .ok (.iadd, 1) := by decide +kernel
theorem dX4_next_85 : decode cX4_next 85 = .ok (.putfield 160, 3) := by decide +kernel
theorem dX4_next_88 : decode cX4_next 88 = .ok (.goto 173, 3) := by decide +kernel
theorem dX4_next_91 : decode cX4_next 91 = .ok (.iload_n 1, 1) := by decide +kernel
theorem dX4_next_92 : decode cX4_next 92 = .ok (.invokestatic 176, 3) := by decide +kernel
theorem dX4_next_95 : decode cX4_next 95 = .ok (.ifCond .le 78, 3) := by decide +kernel
theorem dX4_next_98 : decode cX4_next 98 = .ok (.aload_n 0, 1) := by decide +kernel
theorem dX4_next_99 : decode cX4_next 99 = .ok (.iconst 1, 1) := by decide +kernel
theorem dX4_next_100 : decode cX4_next 100 = .ok (.putfield 173, 3) := by decide +kernel
theorem dX4_next_103 : decode cX4_next 103 = .ok (.aload_n 0, 1) := by decide +kernel
theorem dX4_next_104 : decode cX4_next 104 = .ok (.aload_n 0, 1) := by decide +kernel
theorem dX4_next_105 : decode cX4_next 105 = .ok (.getfield 160, 3) := by decide +kernel
theorem dX4_next_108 : decode cX4_next 108 = .ok (.invokevirtual 163, 3) := by decide +kernel
theorem dX4_next_111 : decode cX4_next 111 = .ok (.invokestatic 176, 3) := by decide +kernel
theorem dX4_next_114 : decode cX4_next 114 = .ok (.ifCond .le 147, 3) := by decide +kernel
theorem dX4_next_117 : decode cX4_next 117 = .ok (.aload_n 0, 1) := by decide +kernel
theorem dX4_next_118 : decode cX4_next 118 = .ok (.aload_n 0, 1) := by decide +kernel
theorem dX4_next_119 : decode cX4_next 119 = .ok (.getfield 169, 3) := by decide +kernel
theorem dX4_next_122 : decode cX4_next 122 = .ok (.ldc2_w 179, 3) := by decide +kernel
theorem dX4_next_125 : decode cX4_next 125 = .ok (.lcmp, 1) := by decide +kernel
theorem dX4_next_126 : decode cX4_next 126 = .ok (.ifCond .le 10, 3) := by decide +kernel
theorem dX4_next_129 : decode cX4_next 129 = .ok (.aload_n 0, 1) := by decide +kernel
theorem dX4_next_130 : decode cX4_next 130 = .ok (.getfield 169, 3) := by decide +kernel
theorem dX4_next_133 : decode cX4_next 133 = .ok (.goto 24, 3) := by decide +kernel
theorem dX4_next_136 : decode cX4_next 136 = .ok (.aload_n 0, 1) := by decide +kernel
theorem dX4_next_137 : decode cX4_next 137 = .ok (.getfield 169, 3) := by decide +kernel
theorem dX4_next_140 : decode cX4_next 140 = .ok (.ldc2_w 181, 3) := by decide +kernel
theorem dX4_next_143 : decode cX4_next 143 = .ok (.lmul, 1) := by decide +kernel
theorem dX4_next_144 : decode cX4_next 144 = .ok (.aload_n 0, 1) := by decide +kernel
theorem dX4_next_145 : decode cX4_next 145 = .ok (.aload_n 0, 1) := by decide +kernel
theorem dX4_next_146 : decode cX4_next 146 = .ok (.getfield 160, 3) := by decide +kernel
theorem dX4_next_149 : decode cX4_next 149 = .ok (.invokevirtual 163, 3) := by decide +kernel
theorem dX4_next_152 : decode cX4_next 152 = .ok (.invokestatic 176, 3) := by decide +kernel
theorem dX4_next_155 : decode cX4_next 155 = .ok (.i2l, 1) := by decide +kernel
theorem dX4_next_156 : decode cX4_next 156 = .ok (.ladd, 1) := by decide +kernel
theorem dX4_next_157 : decode cX4_next 157 = .ok (.putfield 169, 3) := by decide +kernel
theorem dX4_next_160 : decode cX4_next 160 = .ok (.aload_n 0, 1) := by decide +kernel
theorem dX4_next_161 : decode cX4_next 161 = .ok (.dup, 1) := by decide +kernel
theorem dX4_next_162 : decode cX4_next 162 = .ok (.getfield 160, 3) := by decide +kernel
theorem dX4_next_165 : decode cX4_next 165 = .ok (.iconst 1, 1) := by decide +kernel
theorem dX4_next_166 : decode cX4_next 166 = .ok (.iadd, 1) := by decide +kernel
theorem dX4_next_167 : decode cX4_next 167 = .ok (.putfield 160, 3) := by decide +kernel
theorem dX4_next_170 : decode cX4_next 170 = .ok (.goto (-67), 3) := by decide +kernel
theorem dX4_next_173 : decode cX4_next 173 = .ok (.iload_n 1, 1) := by decide +kernel
theorem dX4_next_174 : decode cX4_next 174 = .ok (.invokestatic 183, 3) := by decide +kernel
theorem dX4_next_177 : decode cX4_next 177 = .ok (.ifCond .eq 79, 3) := by decide +kernel
theorem dX4_next_180 : decode cX4_next 180 = .ok (.aload_n 0, 1) := by decide +kernel
theorem dX4_next_181 : decode cX4_next 181 = .ok (.iconst 2, 1) := by decide +kernel
theorem dX4_next_182 : decode cX4_next 182 = .ok (.putfield 173, 3) := by decide +kernel
theorem dX4_next_185 : decode cX4_next 185 = .ok (.aload_n 0, 1) := by decide +kernel
theorem dX4_next_186 : decode cX4_next 186 = .ok (.aload_n 0, 1) := by decide +kernel
theorem dX4_next_187 : decode cX4_next 187 = .ok (.getfield 160, 3) := by decide +kernel
theorem dX4_next_190 : decode cX4_next 190 = .ok (.invokevirtual 163, 3) := by decide +kernel
theorem dX4_next_193 : decode cX4_next 193 = .ok (.invokestatic 183, 3) := by decide +kernel
theorem dX4_next_196 : decode cX4_next 196 = .ok (.ifCond .eq 65, 3) := by decide +kernel
theorem dX4_next_199 : decode cX4_next 199 = .ok (.aload_n 0, 1) := by decide +kernel
theorem dX4_next_200 : decode cX4_next 200 = .ok (.aload_n 0, 1) := by decide +kernel
theorem dX4_next_201 : decode cX4_next 201 = .ok (.getfield 169, 3) := by decide +kernel
theorem dX4_next_204 : decode cX4_next 204 = .ok (.ldc2_w 186, 3) := by decide +kernel
theorem dX4_next_207 : decode cX4_next 207 = .ok (.lcmp, 1) := by decide +kernel
theorem dX4_next_208 : decode cX4_next 208 = .ok (.ifCond .le 10, 3) := by decide +kernel
theorem dX4_next_211 : decode cX4_next 211 = .ok (.aload_n 0, 1) := by decide +kernel
theorem dX4_next_212 : decode cX4_next 212 = .ok (.getfield 169, 3) := by decide +kernel
theorem dX4_next_215 : decode cX4_next 215 = .ok (.goto 25, 3) := by decide +kernel
theorem dX4_next_218 : decode cX4_next 218 = .ok (.aload_n 0, 1) := by decide +kernel
theorem dX4_next_219 : decode cX4_next 219 = .ok (.getfield 169, 3) := by decide +kernel
theorem dX4_next_222 : decode cX4_next 222 = .ok (.ldc2_w 188, 3) := by decide +kernel
theorem dX4_next_225 : decode cX4_next 225 = .ok (.lmul, 1) := by decide +kernel
theorem dX4_next_226 : decode cX4_next 226 = .ok (.aload_n 0, 1) := by decide +kernel
theorem dX4_next_227 : decode cX4_next 227 = .ok (.aload_n 0, 1) := by decide +kernel
theorem dX4_next_228 : decode cX4_next 228 = .ok (.getfield 160, 3) := by decide +kernel
theorem dX4_next_231 : decode cX4_next 231 = .ok (.invokevirtual 163, 3) := by decide +kernel
theorem dX4_next_234 : decode cX4_next 234 = .ok (.i2l, 1) := by decide +kernel
theorem dX4_next_235 : decode cX4_next 235 = .ok (.ladd, 1) := by decide +kernel
theorem dX4_next_236 : decode cX4_next 236 = .ok (.ldc2_w 190, 3) := by decide +kernel
theorem dX4_next_239 : decode cX4_next 239 = .ok (.lsub, 1) := by decide +kernel
theorem dX4_next_240 : decode cX4_next 240 = .ok (.putfield 169, 3) := by decide +kernel
theorem dX4_next_243 : decode cX4_next 243 = .ok (.aload_n 0, 1) := by decide +kernel
theorem dX4_next_244 : decode cX4_next 244 = .ok (.dup, 1) := by decide +kernel
theorem dX4_next_245 : decode cX4_next 245 = .ok (.getfield 160, 3) := by decide +kernel
theorem dX4_next_248 : decode cX4_next 248 = .ok (.iconst 1, 1) := by decide +kernel
theorem dX4_next_249 : decode cX4_next 249 = .ok (.iadd, 1) := by decide +kernel
theorem dX4_next_250 : decode cX4_next 250 = .ok (.putfield 160, 3) := by decide +kernel
theorem dX4_next_253 : decode cX4_next 253 = .ok (.goto (-68), 3) := by decide +kernel
theorem dX4_next_256 : decode cX4_next 256 = .ok (.aload_n 0, 1) := by decide +kernel
theorem dX4_next_257 : decode cX4_next 257 = .ok (.iconst 4, 1) := by decide +kernel
theorem dX4_next_258 : decode cX4_next 258 = .ok (.putfield 173, 3) := by decide +kernel
theorem dX4_next_261 : decode cX4_next 261 = .ok (.return_, 1) := by decide +kernel
theorem dX4_wrongHere_0 : decode cX4_wrongHere 0 = .ok (.aload_n 0, 1) := by decide +kernel
theorem dX4_wrongHere_1 : decode cX4_wrongHere 1 = .ok (.aload_n 0, 1) := by decide +kernel
theorem dX4_wrongHere_2 : decode cX4_wrongHere 2 = .ok (.getfield 192, 3) := by decide +kernel
theorem dX4_wrongHere_5 : decode cX4_wrongHere 5 = .ok (.ifCond .ge 10, 3) := by decide +kernel
theorem dX4_wrongHere_8 : decode cX4_wrongHere 8 = .ok (.aload_n 0, 1) := by decide +kernel
theorem dX4_wrongHere_9 : decode cX4_wrongHere 9 = .ok (.getfield 166, 3) := by decide +kernel
theorem dX4_wrongHere_12 : decode cX4_wrongHere 12 = .ok (.goto 7, 3) := by decide +kernel
theorem dX4_wrongHere_15 : decode cX4_wrongHere 15 = .ok (.aload_n 0, 1) := by decide +kernel
theorem dX4_wrongHere_16 : decode cX4_wrongHere 16 = .ok (.getfield 192, 3) := by decide +kernel
theorem dX4_wrongHere_19 : decode cX4_wrongHere 19 = .ok (.putfield 192, 3) := by decide +kernel
theorem dX4_wrongHere_22 : decode cX4_wrongHere 22 = .ok (.return_, 1) := by decide +kernel
theorem dX4_isWord_0 : decode cX4_isWord 0 = .ok (.aload_n 0, 1) := by decide +kernel
theorem dX4_isWord_1 : decode cX4_isWord 1 = .ok (.getfield 173, 3) := by decide +kernel
theorem dX4_isWord_4 : decode cX4_isWord 4 = .ok (.iconst 1, 1) := by decide +kernel
theorem dX4_isWord_5 : decode cX4_isWord 5 = .ok (.if_icmp .ne 16, 3) := by decide +kernel
theorem dX4_isWord_8 : decode cX4_isWord 8 = .ok (.aload_n 0, 1) := by decide +kernel
theorem dX4_isWord_9 : decode cX4_isWord 9 = .ok (.getfield 169, 3) := by decide +kernel
theorem dX4_isWord_12 : decode cX4_isWord 12 = .ok (.lload_n 1, 1) := by decide +kernel
theorem dX4_isWord_13 : decode cX4_isWord 13 = .ok (.lcmp, 1) := by decide +kernel
theorem dX4_isWord_14 : decode cX4_isWord 14 = .ok (.ifCond .ne 7, 3) := by decide +kernel
theorem dX4_isWord_17 : decode cX4_isWord 17 = .ok (.iconst 1, 1) := by decide +kernel
theorem dX4_isWord_18 : decode cX4_isWord 18 = .ok (.goto 4, 3) := by decide +kernel
theorem dX4_isWord_21 : decode cX4_isWord 21 = .ok (.iconst 0, 1) := by decide +kernel
theorem dX4_isWord_22 : decode cX4_isWord 22 = .ok (.ireturn, 1) := by decide +kernel
theorem dX4_kindHere_0 : decode cX4_kindHere 0 = .ok (.aload_n 0, 1) := by decide +kernel
theorem dX4_kindHere_1 : decode cX4_kindHere 1 = .ok (.ldc2_w 195, 3) := by decide +kernel
theorem dX4_kindHere_4 : decode cX4_kindHere 4 = .ok (.invokevirtual 197, 3) := by decide +kernel
theorem dX4_kindHere_7 : decode cX4_kindHere 7 = .ok (.ifCond .eq 7, 3) := by decide +kernel
theorem dX4_kindHere_10 : decode cX4_kindHere 10 = .ok (.iconst 0, 1) := by decide +kernel
theorem dX4_kindHere_11 : decode cX4_kindHere 11 = .ok (.goto 74, 3) := by decide +kernel
theorem dX4_kindHere_14 : decode cX4_kindHere 14 = .ok (.aload_n 0, 1) := by decide +kernel
theorem dX4_kindHere_15 : decode cX4_kindHere 15 = .ok (.ldc2_w 201, 3) := by decide +kernel
theorem dX4_kindHere_18 : decode cX4_kindHere 18 = .ok (.invokevirtual 197, 3) := by decide +kernel
theorem dX4_kindHere_21 : decode cX4_kindHere 21 = .ok (.ifCond .eq 7, 3) := by decide +kernel
theorem dX4_kindHere_24 : decode cX4_kindHere 24 = .ok (.iconst 1, 1) := by decide +kernel
theorem dX4_kindHere_25 : decode cX4_kindHere 25 = .ok (.goto 60, 3) := by decide +kernel
theorem dX4_kindHere_28 : decode cX4_kindHere 28 = .ok (.aload_n 0, 1) := by decide +kernel
theorem dX4_kindHere_29 : decode cX4_kindHere 29 = .ok (.ldc2_w 203, 3) := by decide +kernel
theorem dX4_kindHere_32 : decode cX4_kindHere 32 = .ok (.invokevirtual 197, 3) := by decide +kernel
theorem dX4_kindHere_35 : decode cX4_kindHere 35 = .ok (.ifCond .eq 7, 3) := by decide +kernel
theorem dX4_kindHere_38 : decode cX4_kindHere 38 = .ok (.iconst 2, 1) := by decide +kernel
theorem dX4_kindHere_39 : decode cX4_kindHere 39 = .ok (.goto 46, 3) := by decide +kernel
theorem dX4_kindHere_42 : decode cX4_kindHere 42 = .ok (.aload_n 0, 1) := by decide +kernel
theorem dX4_kindHere_43 : decode cX4_kindHere 43 = .ok (.ldc2_w 205, 3) := by decide +kernel
theorem dX4_kindHere_46 : decode cX4_kindHere 46 = .ok (.invokevirtual 197, 3) := by decide +kernel
theorem dX4_kindHere_49 : decode cX4_kindHere 49 = .ok (.ifCond .eq 7, 3) := by decide +kernel
theorem dX4_kindHere_52 : decode cX4_kindHere 52 = .ok (.iconst 3, 1) := by decide +kernel
theorem dX4_kindHere_53 : decode cX4_kindHere 53 = .ok (.goto 32, 3) := by decide +kernel
theorem dX4_kindHere_56 : decode cX4_kindHere 56 = .ok (.aload_n 0, 1) := by decide +kernel
theorem dX4_kindHere_57 : decode cX4_kindHere 57 = .ok (.ldc2_w 207, 3) := by decide +kernel
theorem dX4_kindHere_60 : decode cX4_kindHere 60 = .ok (.invokevirtual 197, 3) := by decide +kernel
theorem dX4_kindHere_63 : decode cX4_kindHere 63 = .ok (.ifCond .eq 7, 3) := by decide +kernel
theorem dX4_kindHere_66 : decode cX4_kindHere 66 = .ok (.iconst 4, 1) := by decide +kernel
theorem dX4_kindHere_67 : decode cX4_kindHere 67 = .ok (.goto 18, 3) := by decide +kernel
theorem dX4_kindHere_70 : decode cX4_kindHere 70 = .ok (.aload_n 0, 1) := by decide +kernel
theorem dX4_kindHere_71 : decode cX4_kindHere 71 = .ok (.ldc2_w 209, 3) := by decide +kernel
theorem dX4_kindHere_74 : decode cX4_kindHere 74 = .ok (.invokevirtual 197, 3) := by decide +kernel
theorem dX4_kindHere_77 : decode cX4_kindHere 77 = .ok (.ifCond .eq 7, 3) := by decide +kernel
theorem dX4_kindHere_80 : decode cX4_kindHere 80 = .ok (.iconst 5, 1) := by decide +kernel
theorem dX4_kindHere_81 : decode cX4_kindHere 81 = .ok (.goto 4, 3) := by decide +kernel
theorem dX4_kindHere_84 : decode cX4_kindHere 84 = .ok (.iconst (-1), 1) := by decide +kernel
theorem dX4_kindHere_85 : decode cX4_kindHere 85 = .ok (.ireturn, 1) := by decide +kernel
theorem dX4_cueHere_0 : decode cX4_cueHere 0 = .ok (.aload_n 0, 1) := by decide +kernel
theorem dX4_cueHere_1 : decode cX4_cueHere 1 = .ok (.ldc2_w 211, 3) := by decide +kernel
theorem dX4_cueHere_4 : decode cX4_cueHere 4 = .ok (.invokevirtual 197, 3) := by decide +kernel
theorem dX4_cueHere_7 : decode cX4_cueHere 7 = .ok (.ifCond .eq 7, 3) := by decide +kernel
theorem dX4_cueHere_10 : decode cX4_cueHere 10 = .ok (.iconst 0, 1) := by decide +kernel
theorem dX4_cueHere_11 : decode cX4_cueHere 11 = .ok (.goto 60, 3) := by decide +kernel
theorem dX4_cueHere_14 : decode cX4_cueHere 14 = .ok (.aload_n 0, 1) := by decide +kernel
theorem dX4_cueHere_15 : decode cX4_cueHere 15 = .ok (.ldc2_w 213, 3) := by decide +kernel
theorem dX4_cueHere_18 : decode cX4_cueHere 18 = .ok (.invokevirtual 197, 3) := by decide +kernel
theorem dX4_cueHere_21 : decode cX4_cueHere 21 = .ok (.ifCond .eq 7, 3) := by decide +kernel
theorem dX4_cueHere_24 : decode cX4_cueHere 24 = .ok (.iconst 1, 1) := by decide +kernel
theorem dX4_cueHere_25 : decode cX4_cueHere 25 = .ok (.goto 46, 3) := by decide +kernel
theorem dX4_cueHere_28 : decode cX4_cueHere 28 = .ok (.aload_n 0, 1) := by decide +kernel
theorem dX4_cueHere_29 : decode cX4_cueHere 29 = .ok (.ldc2_w 215, 3) := by decide +kernel
theorem dX4_cueHere_32 : decode cX4_cueHere 32 = .ok (.invokevirtual 197, 3) := by decide +kernel
theorem dX4_cueHere_35 : decode cX4_cueHere 35 = .ok (.ifCond .eq 7, 3) := by decide +kernel
theorem dX4_cueHere_38 : decode cX4_cueHere 38 = .ok (.iconst 2, 1) := by decide +kernel
theorem dX4_cueHere_39 : decode cX4_cueHere 39 = .ok (.goto 32, 3) := by decide +kernel
theorem dX4_cueHere_42 : decode cX4_cueHere 42 = .ok (.aload_n 0, 1) := by decide +kernel
theorem dX4_cueHere_43 : decode cX4_cueHere 43 = .ok (.ldc2_w 217, 3) := by decide +kernel
theorem dX4_cueHere_46 : decode cX4_cueHere 46 = .ok (.invokevirtual 197, 3) := by decide +kernel
theorem dX4_cueHere_49 : decode cX4_cueHere 49 = .ok (.ifCond .eq 7, 3) := by decide +kernel
theorem dX4_cueHere_52 : decode cX4_cueHere 52 = .ok (.iconst 3, 1) := by decide +kernel
theorem dX4_cueHere_53 : decode cX4_cueHere 53 = .ok (.goto 18, 3) := by decide +kernel
theorem dX4_cueHere_56 : decode cX4_cueHere 56 = .ok (.aload_n 0, 1) := by decide +kernel
theorem dX4_cueHere_57 : decode cX4_cueHere 57 = .ok (.ldc2_w 219, 3) := by decide +kernel
theorem dX4_cueHere_60 : decode cX4_cueHere 60 = .ok (.invokevirtual 197, 3) := by decide +kernel
theorem dX4_cueHere_63 : decode cX4_cueHere 63 = .ok (.ifCond .eq 7, 3) := by decide +kernel
theorem dX4_cueHere_66 : decode cX4_cueHere 66 = .ok (.iconst 4, 1) := by decide +kernel
theorem dX4_cueHere_67 : decode cX4_cueHere 67 = .ok (.goto 4, 3) := by decide +kernel
theorem dX4_cueHere_70 : decode cX4_cueHere 70 = .ok (.iconst (-1), 1) := by decide +kernel
theorem dX4_cueHere_71 : decode cX4_cueHere 71 = .ok (.ireturn, 1) := by decide +kernel
theorem dX4_numberHere_0 : decode cX4_numberHere 0 = .ok (.aload_n 0, 1) := by decide +kernel
theorem dX4_numberHere_1 : decode cX4_numberHere 1 = .ok (.getfield 169, 3) := by decide +kernel
theorem dX4_numberHere_4 : decode cX4_numberHere 4 = .ok (.l2i, 1) := by decide +kernel
theorem dX4_numberHere_5 : decode cX4_numberHere 5 = .ok (.istore_n 3, 1) := by decide +kernel
theorem dX4_numberHere_6 : decode cX4_numberHere 6 = .ok (.aload_n 0, 1) := by decide +kernel
theorem dX4_numberHere_7 : decode cX4_numberHere 7 = .ok (.getfield 173, 3) := by decide +kernel
theorem dX4_numberHere_10 : decode cX4_numberHere 10 = .ok (.iconst 2, 1) := by decide +kernel
theorem dX4_numberHere_11 : decode cX4_numberHere 11 = .ok (.if_icmp .ne 17, 3) := by decide +kernel
theorem dX4_numberHere_14 : decode cX4_numberHere 14 = .ok (.aload_n 0, 1) := by decide +kernel
theorem dX4_numberHere_15 : decode cX4_numberHere 15 = .ok (.getfield 169, 3) := by decide +kernel
theorem dX4_numberHere_18 : decode cX4_numberHere 18 = .ok (.iload_n 1, 1) := by decide +kernel
theorem dX4_numberHere_19 : decode cX4_numberHere 19 = .ok (.i2l, 1) := by decide +kernel
theorem dX4_numberHere_20 : decode cX4_numberHere 20 = .ok (.iload_n 2, 1) := by decide +kernel
theorem dX4_numberHere_21 : decode cX4_numberHere 21 = .ok (.i2l, 1) := by decide +kernel
theorem dX4_numberHere_22 : decode cX4_numberHere 22 = .ok (.invokestatic 46, 3) := by decide +kernel
theorem dX4_numberHere_25 : decode cX4_numberHere 25 = .ok (.ifCond .ne 9, 3) := by decide +kernel
theorem dX4_numberHere_28 : decode cX4_numberHere 28 = .ok (.aload_n 0, 1) := by decide +kernel
theorem dX4_numberHere_29 : decode cX4_numberHere 29 = .ok (.invokevirtual 221, 3) := by decide +kernel
theorem dX4_numberHere_32 : decode cX4_numberHere 32 = .ok (.iconst 0, 1) := by decide +kernel
theorem dX4_numberHere_33 : decode cX4_numberHere 33 = .ok (.ireturn, 1) := by decide +kernel
theorem dX4_numberHere_34 : decode cX4_numberHere 34 = .ok (.aload_n 0, 1) := by decide +kernel
theorem dX4_numberHere_35 : decode cX4_numberHere 35 = .ok (.invokevirtual 224, 3) := by decide +kernel
theorem dX4_numberHere_38 : decode cX4_numberHere 38 = .ok (.iload_n 3, 1) := by decide +kernel
theorem dX4_numberHere_39 : decode cX4_numberHere 39 = .ok (.ireturn, 1) := by decide +kernel
theorem dX4_personHere_0 : decode cX4_personHere 0 = .ok (.aload_n 0, 1) := by decide +kernel
theorem dX4_personHere_1 : decode cX4_personHere 1 = .ok (.getfield 7, 3) := by decide +kernel
theorem dX4_personHere_4 : decode cX4_personHere 4 = .ok (.iconst 0, 1) := by decide +kernel
theorem dX4_personHere_5 : decode cX4_personHere 5 = .ok (.iaload, 1) := by decide +kernel
theorem dX4_personHere_6 : decode cX4_personHere 6 = .ok (.bipush 8, 2) := by decide +kernel
theorem dX4_personHere_8 : decode cX4_personHere 8 = .ok (.if_icmp .ne 8, 3) := by decide +kernel
theorem dX4_personHere_11 : decode cX4_personHere 11 = .ok (.aload_n 0, 1) := by decide +kernel
theorem dX4_personHere_12 : decode cX4_personHere 12 = .ok (.invokevirtual 221, 3) := by decide +kernel
theorem dX4_personHere_15 : decode cX4_personHere 15 = .ok (.return_, 1) := by decide +kernel
theorem dX4_personHere_16 : decode cX4_personHere 16 = .ok (.aload_n 0, 1) := by decide +kernel
theorem dX4_personHere_17 : decode cX4_personHere 17 = .ok (.invokevirtual 224, 3) := by decide +kernel
theorem dX4_personHere_20 : decode cX4_personHere 20 = .ok (.aload_n 0, 1) := by decide +kernel
theorem dX4_personHere_21 : decode cX4_personHere 21 = .ok (.iload_n 1, 1) := by decide +kernel
theorem dX4_personHere_22 : decode cX4_personHere 22 = .ok (.invokevirtual 107, 3) := by decide +kernel
theorem dX4_personHere_25 : decode cX4_personHere 25 = .ok (.istore_n 2, 1) := by decide +kernel
theorem dX4_personHere_26 : decode cX4_personHere 26 = .ok (.aload_n 0, 1) := by decide +kernel
theorem dX4_personHere_27 : decode cX4_personHere 27 = .ok (.ldc2_w 227, 3) := by decide +kernel
theorem dX4_personHere_30 : decode cX4_personHere 30 = .ok (.invokevirtual 197, 3) := by decide +kernel
theorem dX4_personHere_33 : decode cX4_personHere 33 = .ok (.ifCond .eq 20, 3) := by decide +kernel
theorem dX4_personHere_36 : decode cX4_personHere 36 = .ok (.aload_n 0, 1) := by decide +kernel
theorem dX4_personHere_37 : decode cX4_personHere 37 = .ok (.invokevirtual 224, 3) := by decide +kernel
theorem dX4_personHere_40 : decode cX4_personHere 40 = .ok (.aload_n 0, 1) := by decide +kernel
theorem dX4_personHere_41 : decode cX4_personHere 41 = .ok (.iload_n 2, 1) := by decide +kernel
theorem dX4_personHere_42 : decode cX4_personHere 42 = .ok (.iconst 1, 1) := by decide +kernel
theorem dX4_personHere_43 : decode cX4_personHere 43 = .ok (.aload_n 0, 1) := by decide +kernel
theorem dX4_personHere_44 : decode cX4_personHere 44 = .ok (.iconst 0, 1) := by decide +kernel
theorem dX4_personHere_45 : decode cX4_personHere 45 = .ok (.bipush 99, 2) := by decide +kernel
theorem dX4_personHere_47 : decode cX4_personHere 47 = .ok (.invokevirtual 229, 3) := by decide +kernel
theorem dX4_personHere_50 : decode cX4_personHere 50 = .ok (.invokevirtual 73, 3) := by decide +kernel
theorem dX4_personHere_53 : decode cX4_personHere 53 = .ok (.return_, 1) := by decide +kernel
theorem dX4_cueItem_0 : decode cX4_cueItem 0 = .ok (.aload_n 0, 1) := by decide +kernel
theorem dX4_cueItem_1 : decode cX4_cueItem 1 = .ok (.invokevirtual 224, 3) := by decide +kernel
theorem dX4_cueItem_4 : decode cX4_cueItem 4 = .ok (.aload_n 0, 1) := by decide +kernel
theorem dX4_cueItem_5 : decode cX4_cueItem 5 = .ok (.iconst 0, 1) := by decide +kernel
theorem dX4_cueItem_6 : decode cX4_cueItem 6 = .ok (.bipush 15, 2) := by decide +kernel
theorem dX4_cueItem_8 : decode cX4_cueItem 8 = .ok (.invokevirtual 229, 3) := by decide +kernel
theorem dX4_cueItem_11 : decode cX4_cueItem 11 = .ok (.istore_n 1, 1) := by decide +kernel
theorem dX4_cueItem_12 : decode cX4_cueItem 12 = .ok (.aload_n 0, 1) := by decide +kernel
theorem dX4_cueItem_13 : decode cX4_cueItem 13 = .ok (.getfield 192, 3) := by decide +kernel
theorem dX4_cueItem_16 : decode cX4_cueItem 16 = .ok (.ifCond .ge 10, 3) := by decide +kernel
theorem dX4_cueItem_19 : decode cX4_cueItem 19 = .ok (.aload_n 0, 1) := by decide +kernel
theorem dX4_cueItem_20 : decode cX4_cueItem 20 = .ok (.invokevirtual 232, 3) := by decide +kernel
theorem dX4_cueItem_23 : decode cX4_cueItem 23 = .ok (.goto 4, 3) := by decide +kernel
theorem dX4_cueItem_26 : decode cX4_cueItem 26 = .ok (.iconst 0, 1) := by decide +kernel
theorem dX4_cueItem_27 : decode cX4_cueItem 27 = .ok (.istore_n 2, 1) := by decide +kernel
theorem dX4_cueItem_28 : decode cX4_cueItem 28 = .ok (.aload_n 0, 1) := by decide +kernel
theorem dX4_cueItem_29 : decode cX4_cueItem 29 = .ok (.getfield 192, 3) := by decide +kernel
theorem dX4_cueItem_32 : decode cX4_cueItem 32 = .ok (.ifCond .ge 11, 3) := by decide +kernel
theorem dX4_cueItem_35 : decode cX4_cueItem 35 = .ok (.iload_n 2, 1) := by decide +kernel
theorem dX4_cueItem_36 : decode cX4_cueItem 36 = .ok (.ifCond .ge 7, 3) := by decide +kernel
theorem dX4_cueItem_39 : decode cX4_cueItem 39 = .ok (.aload_n 0, 1) := by decide +kernel
theorem dX4_cueItem_40 : decode cX4_cueItem 40 = .ok (.invokevirtual 221, 3) := by decide +kernel
theorem dX4_cueItem_43 : decode cX4_cueItem 43 = .ok (.aload_n 0, 1) := by decide +kernel
theorem dX4_cueItem_44 : decode cX4_cueItem 44 = .ok (.getfield 192, 3) := by decide +kernel
theorem dX4_cueItem_47 : decode cX4_cueItem 47 = .ok (.ifCond .ge 16, 3) := by decide +kernel
theorem dX4_cueItem_50 : decode cX4_cueItem 50 = .ok (.aload_n 0, 1) := by decide +kernel
theorem dX4_cueItem_51 : decode cX4_cueItem 51 = .ok (.getfield 7, 3) := by decide +kernel
theorem dX4_cueItem_54 : decode cX4_cueItem 54 = .ok (.iconst 3, 1) := by decide +kernel
theorem dX4_cueItem_55 : decode cX4_cueItem 55 = .ok (.iload_n 1, 1) := by decide +kernel
theorem dX4_cueItem_56 : decode cX4_cueItem 56 = .ok (.iadd, 1) := by decide +kernel
theorem dX4_cueItem_57 : decode cX4_cueItem 57 = .ok (.iload_n 2, 1) := by decide +kernel
theorem dX4_cueItem_58 : decode cX4_cueItem 58 = .ok (.iastore, 1) := by decide +kernel
theorem dX4_cueItem_59 : decode cX4_cueItem 59 = .ok (.aload_n 0, 1) := by decide +kernel
theorem dX4_cueItem_60 : decode cX4_cueItem 60 = .ok (.invokevirtual 224, 3) := by decide +kernel
theorem dX4_cueItem_63 : decode cX4_cueItem 63 = .ok (.return_, 1) := by decide +kernel
theorem dX4_tenseItem_0 : decode cX4_tenseItem 0 = .ok (.aload_n 0, 1) := by decide +kernel
theorem dX4_tenseItem_1 : decode cX4_tenseItem 1 = .ok (.invokevirtual 224, 3) := by decide +kernel
theorem dX4_tenseItem_4 : decode cX4_tenseItem 4 = .ok (.aload_n 0, 1) := by decide +kernel
theorem dX4_tenseItem_5 : decode cX4_tenseItem 5 = .ok (.iconst 0, 1) := by decide +kernel
theorem dX4_tenseItem_6 : decode cX4_tenseItem 6 = .ok (.bipush 15, 2) := by decide +kernel
theorem dX4_tenseItem_8 : decode cX4_tenseItem 8 = .ok (.invokevirtual 229, 3) := by decide +kernel
theorem dX4_tenseItem_11 : decode cX4_tenseItem 11 = .ok (.istore_n 1, 1) := by decide +kernel
theorem dX4_tenseItem_12 : decode cX4_tenseItem 12 = .ok (.aload_n 0, 1) := by decide +kernel
theorem dX4_tenseItem_13 : decode cX4_tenseItem 13 = .ok (.getfield 192, 3) := by decide +kernel
theorem dX4_tenseItem_16 : decode cX4_tenseItem 16 = .ok (.ifCond .ge 13, 3) := by decide +kernel
theorem dX4_tenseItem_19 : decode cX4_tenseItem 19 = .ok (.aload_n 0, 1) := by decide +kernel
theorem dX4_tenseItem_20 : decode cX4_tenseItem 20 = .ok (.iconst 0, 1) := by decide +kernel
theorem dX4_tenseItem_21 : decode cX4_tenseItem 21 = .ok (.bipush 20, 2) := by decide +kernel
theorem dX4_tenseItem_23 : decode cX4_tenseItem 23 = .ok (.invokevirtual 229, 3) := by decide +kernel
theorem dX4_tenseItem_26 : decode cX4_tenseItem 26 = .ok (.goto 4, 3) := by decide +kernel
theorem dX4_tenseItem_29 : decode cX4_tenseItem 29 = .ok (.iconst 0, 1) := by decide +kernel
theorem dX4_tenseItem_30 : decode cX4_tenseItem 30 = .ok (.istore_n 2, 1) := by decide +kernel
theorem dX4_tenseItem_31 : decode cX4_tenseItem 31 = .ok (.aload_n 0, 1) := by decide +kernel
theorem dX4_tenseItem_32 : decode cX4_tenseItem 32 = .ok (.getfield 192, 3) := by decide +kernel
theorem dX4_tenseItem_35 : decode cX4_tenseItem 35 = .ok (.ifCond .ge 13, 3) := by decide +kernel
theorem dX4_tenseItem_38 : decode cX4_tenseItem 38 = .ok (.aload_n 0, 1) := by decide +kernel
theorem dX4_tenseItem_39 : decode cX4_tenseItem 39 = .ok (.getfield 7, 3) := by decide +kernel
theorem dX4_tenseItem_42 : decode cX4_tenseItem 42 = .ok (.bipush 19, 2) := by decide +kernel
theorem dX4_tenseItem_44 : decode cX4_tenseItem 44 = .ok (.iload_n 1, 1) := by decide +kernel
theorem dX4_tenseItem_45 : decode cX4_tenseItem 45 = .ok (.iadd, 1) := by decide +kernel
theorem dX4_tenseItem_46 : decode cX4_tenseItem 46 = .ok (.iload_n 2, 1) := by decide +kernel
theorem dX4_tenseItem_47 : decode cX4_tenseItem 47 = .ok (.iastore, 1) := by decide +kernel
theorem dX4_tenseItem_48 : decode cX4_tenseItem 48 = .ok (.return_, 1) := by decide +kernel
theorem dX4_swapItem_0 : decode cX4_swapItem 0 = .ok (.aload_n 0, 1) := by decide +kernel
theorem dX4_swapItem_1 : decode cX4_swapItem 1 = .ok (.invokevirtual 224, 3) := by decide +kernel
theorem dX4_swapItem_4 : decode cX4_swapItem 4 = .ok (.aload_n 0, 1) := by decide +kernel
theorem dX4_swapItem_5 : decode cX4_swapItem 5 = .ok (.iconst 0, 1) := by decide +kernel
theorem dX4_swapItem_6 : decode cX4_swapItem 6 = .ok (.aload_n 0, 1) := by decide +kernel
theorem dX4_swapItem_7 : decode cX4_swapItem 7 = .ok (.getfield 7, 3) := by decide +kernel
theorem dX4_swapItem_10 : decode cX4_swapItem 10 = .ok (.iconst 0, 1) := by decide +kernel
theorem dX4_swapItem_11 : decode cX4_swapItem 11 = .ok (.iaload, 1) := by decide +kernel
theorem dX4_swapItem_12 : decode cX4_swapItem 12 = .ok (.iconst 1, 1) := by decide +kernel
theorem dX4_swapItem_13 : decode cX4_swapItem 13 = .ok (.isub, 1) := by decide +kernel
theorem dX4_swapItem_14 : decode cX4_swapItem 14 = .ok (.invokevirtual 229, 3) := by decide +kernel
theorem dX4_swapItem_17 : decode cX4_swapItem 17 = .ok (.istore_n 1, 1) := by decide +kernel
theorem dX4_swapItem_18 : decode cX4_swapItem 18 = .ok (.aload_n 0, 1) := by decide +kernel
theorem dX4_swapItem_19 : decode cX4_swapItem 19 = .ok (.getfield 192, 3) := by decide +kernel
theorem dX4_swapItem_22 : decode cX4_swapItem 22 = .ok (.ifCond .ge 25, 3) := by decide +kernel
theorem dX4_swapItem_25 : decode cX4_swapItem 25 = .ok (.aload_n 0, 1) := by decide +kernel
theorem dX4_swapItem_26 : decode cX4_swapItem 26 = .ok (.getfield 173, 3) := by decide +kernel
theorem dX4_swapItem_29 : decode cX4_swapItem 29 = .ok (.iconst 2, 1) := by decide +kernel
theorem dX4_swapItem_30 : decode cX4_swapItem 30 = .ok (.if_icmp .ne 17, 3) := by decide +kernel
theorem dX4_swapItem_33 : decode cX4_swapItem 33 = .ok (.aload_n 0, 1) := by decide +kernel
theorem dX4_swapItem_34 : decode cX4_swapItem 34 = .ok (.getfield 169, 3) := by decide +kernel
theorem dX4_swapItem_37 : decode cX4_swapItem 37 = .ok (.iload_n 1, 1) := by decide +kernel
theorem dX4_swapItem_38 : decode cX4_swapItem 38 = .ok (.i2l, 1) := by decide +kernel
theorem dX4_swapItem_39 : decode cX4_swapItem 39 = .ok (.lcmp, 1) := by decide +kernel
theorem dX4_swapItem_40 : decode cX4_swapItem 40 = .ok (.ifCond .ne 7, 3) := by decide +kernel
theorem dX4_swapItem_43 : decode cX4_swapItem 43 = .ok (.aload_n 0, 1) := by decide +kernel
theorem dX4_swapItem_44 : decode cX4_swapItem 44 = .ok (.invokevirtual 221, 3) := by decide +kernel
theorem dX4_swapItem_47 : decode cX4_swapItem 47 = .ok (.aload_n 0, 1) := by decide +kernel
theorem dX4_swapItem_48 : decode cX4_swapItem 48 = .ok (.getfield 192, 3) := by decide +kernel
theorem dX4_swapItem_51 : decode cX4_swapItem 51 = .ok (.ifCond .ge 19, 3) := by decide +kernel
theorem dX4_swapItem_54 : decode cX4_swapItem 54 = .ok (.aload_n 0, 1) := by decide +kernel
theorem dX4_swapItem_55 : decode cX4_swapItem 55 = .ok (.iconst 0, 1) := by decide +kernel
theorem dX4_swapItem_56 : decode cX4_swapItem 56 = .ok (.aload_n 0, 1) := by decide +kernel
theorem dX4_swapItem_57 : decode cX4_swapItem 57 = .ok (.getfield 7, 3) := by decide +kernel
theorem dX4_swapItem_60 : decode cX4_swapItem 60 = .ok (.iconst 0, 1) := by decide +kernel
theorem dX4_swapItem_61 : decode cX4_swapItem 61 = .ok (.iaload, 1) := by decide +kernel
theorem dX4_swapItem_62 : decode cX4_swapItem 62 = .ok (.iconst 1, 1) := by decide +kernel
theorem dX4_swapItem_63 : decode cX4_swapItem 63 = .ok (.isub, 1) := by decide +kernel
theorem dX4_swapItem_64 : decode cX4_swapItem 64 = .ok (.invokevirtual 229, 3) := by decide +kernel
theorem dX4_swapItem_67 : decode cX4_swapItem 67 = .ok (.goto 4, 3) := by decide +kernel
theorem dX4_swapItem_70 : decode cX4_swapItem 70 = .ok (.iconst 0, 1) := by decide +kernel
theorem dX4_swapItem_71 : decode cX4_swapItem 71 = .ok (.istore_n 2, 1) := by decide +kernel
theorem dX4_swapItem_72 : decode cX4_swapItem 72 = .ok (.aload_n 0, 1) := by decide +kernel
theorem dX4_swapItem_73 : decode cX4_swapItem 73 = .ok (.getfield 192, 3) := by decide +kernel
theorem dX4_swapItem_76 : decode cX4_swapItem 76 = .ok (.ifCond .ge 9, 3) := by decide +kernel
theorem dX4_swapItem_79 : decode cX4_swapItem 79 = .ok (.aload_n 0, 1) := by decide +kernel
theorem dX4_swapItem_80 : decode cX4_swapItem 80 = .ok (.iload_n 1, 1) := by decide +kernel
theorem dX4_swapItem_81 : decode cX4_swapItem 81 = .ok (.iload_n 2, 1) := by decide +kernel
theorem dX4_swapItem_82 : decode cX4_swapItem 82 = .ok (.invokevirtual 119, 3) := by decide +kernel
theorem dX4_swapItem_85 : decode cX4_swapItem 85 = .ok (.return_, 1) := by decide +kernel
theorem dX4_item_0 : decode cX4_item 0 = .ok (.aload_n 0, 1) := by decide +kernel
theorem dX4_item_1 : decode cX4_item 1 = .ok (.invokevirtual 236, 3) := by decide +kernel
theorem dX4_item_4 : decode cX4_item 4 = .ok (.istore_n 1, 1) := by decide +kernel
theorem dX4_item_5 : decode cX4_item 5 = .ok (.iload_n 1, 1) := by decide +kernel
theorem dX4_item_6 : decode cX4_item 6 = .ok (.ifCond .lt 11, 3) := by decide +kernel
theorem dX4_item_9 : decode cX4_item 9 = .ok (.aload_n 0, 1) := by decide +kernel
theorem dX4_item_10 : decode cX4_item 10 = .ok (.iload_n 1, 1) := by decide +kernel
theorem dX4_item_11 : decode cX4_item 11 = .ok (.invokevirtual 239, 3) := by decide +kernel
theorem dX4_item_14 : decode cX4_item 14 = .ok (.goto 58, 3) := by decide +kernel
theorem dX4_item_17 : decode cX4_item 17 = .ok (.aload_n 0, 1) := by decide +kernel
theorem dX4_item_18 : decode cX4_item 18 = .ok (.ldc2_w 242, 3) := by decide +kernel
theorem dX4_item_21 : decode cX4_item 21 = .ok (.invokevirtual 197, 3) := by decide +kernel
theorem dX4_item_24 : decode cX4_item 24 = .ok (.ifCond .eq 10, 3) := by decide +kernel
theorem dX4_item_27 : decode cX4_item 27 = .ok (.aload_n 0, 1) := by decide +kernel
theorem dX4_item_28 : decode cX4_item 28 = .ok (.invokevirtual 244, 3) := by decide +kernel
theorem dX4_item_31 : decode cX4_item 31 = .ok (.goto 41, 3) := by decide +kernel
theorem dX4_item_34 : decode cX4_item 34 = .ok (.aload_n 0, 1) := by decide +kernel
theorem dX4_item_35 : decode cX4_item 35 = .ok (.ldc2_w 247, 3) := by decide +kernel
theorem dX4_item_38 : decode cX4_item 38 = .ok (.invokevirtual 197, 3) := by decide +kernel
theorem dX4_item_41 : decode cX4_item 41 = .ok (.ifCond .eq 10, 3) := by decide +kernel
theorem dX4_item_44 : decode cX4_item 44 = .ok (.aload_n 0, 1) := by decide +kernel
theorem dX4_item_45 : decode cX4_item 45 = .ok (.invokevirtual 249, 3) := by decide +kernel
theorem dX4_item_48 : decode cX4_item 48 = .ok (.goto 24, 3) := by decide +kernel
theorem dX4_item_51 : decode cX4_item 51 = .ok (.aload_n 0, 1) := by decide +kernel
theorem dX4_item_52 : decode cX4_item 52 = .ok (.ldc2_w 252, 3) := by decide +kernel
theorem dX4_item_55 : decode cX4_item 55 = .ok (.invokevirtual 197, 3) := by decide +kernel
theorem dX4_item_58 : decode cX4_item 58 = .ok (.ifCond .eq 10, 3) := by decide +kernel
theorem dX4_item_61 : decode cX4_item 61 = .ok (.aload_n 0, 1) := by decide +kernel
theorem dX4_item_62 : decode cX4_item 62 = .ok (.invokevirtual 254, 3) := by decide +kernel
theorem dX4_item_65 : decode cX4_item 65 = .ok (.goto 7, 3) := by decide +kernel
theorem dX4_item_68 : decode cX4_item 68 = .ok (.aload_n 0, 1) := by decide +kernel
theorem dX4_item_69 : decode cX4_item 69 = .ok (.invokevirtual 221, 3) := by decide +kernel
theorem dX4_item_72 : decode cX4_item 72 = .ok (.return_, 1) := by decide +kernel
theorem dX4_items_0 : decode cX4_items 0 = .ok (.aload_n 0, 1) := by decide +kernel
theorem dX4_items_1 : decode cX4_items 1 = .ok (.iconst 0, 1) := by decide +kernel
theorem dX4_items_2 : decode cX4_items 2 = .ok (.putfield 160, 3) := by decide +kernel
theorem dX4_items_5 : decode cX4_items 5 = .ok (.aload_n 0, 1) := by decide +kernel
theorem dX4_items_6 : decode cX4_items 6 = .ok (.iconst (-1), 1) := by decide +kernel
theorem dX4_items_7 : decode cX4_items 7 = .ok (.putfield 192, 3) := by decide +kernel
theorem dX4_items_10 : decode cX4_items 10 = .ok (.aload_n 0, 1) := by decide +kernel
theorem dX4_items_11 : decode cX4_items 11 = .ok (.invokevirtual 224, 3) := by decide +kernel
theorem dX4_items_14 : decode cX4_items 14 = .ok (.aload_n 0, 1) := by decide +kernel
theorem dX4_items_15 : decode cX4_items 15 = .ok (.invokevirtual 257, 3) := by decide +kernel
theorem dX4_items_18 : decode cX4_items 18 = .ok (.iconst 1, 1) := by decide +kernel
theorem dX4_items_19 : decode cX4_items 19 = .ok (.istore_n 1, 1) := by decide +kernel
theorem dX4_items_20 : decode cX4_items 20 = .ok (.aload_n 0, 1) := by decide +kernel
theorem dX4_items_21 : decode cX4_items 21 = .ok (.getfield 192, 3) := by decide +kernel
theorem dX4_items_24 : decode cX4_items 24 = .ok (.ifCond .ge 25, 3) := by decide +kernel
theorem dX4_items_27 : decode cX4_items 27 = .ok (.aload_n 0, 1) := by decide +kernel
theorem dX4_items_28 : decode cX4_items 28 = .ok (.getfield 173, 3) := by decide +kernel
theorem dX4_items_31 : decode cX4_items 31 = .ok (.iconst 3, 1) := by decide +kernel
theorem dX4_items_32 : decode cX4_items 32 = .ok (.if_icmp .ne 17, 3) := by decide +kernel
theorem dX4_items_35 : decode cX4_items 35 = .ok (.aload_n 0, 1) := by decide +kernel
theorem dX4_items_36 : decode cX4_items 36 = .ok (.invokevirtual 224, 3) := by decide +kernel
theorem dX4_items_39 : decode cX4_items 39 = .ok (.aload_n 0, 1) := by decide +kernel
theorem dX4_items_40 : decode cX4_items 40 = .ok (.invokevirtual 257, 3) := by decide +kernel
theorem dX4_items_43 : decode cX4_items 43 = .ok (.iinc 1 1, 3) := by decide +kernel
theorem dX4_items_46 : decode cX4_items 46 = .ok (.goto (-26), 3) := by decide +kernel
theorem dX4_items_49 : decode cX4_items 49 = .ok (.aload_n 0, 1) := by decide +kernel
theorem dX4_items_50 : decode cX4_items 50 = .ok (.getfield 192, 3) := by decide +kernel
theorem dX4_items_53 : decode cX4_items 53 = .ok (.ifCond .ge 14, 3) := by decide +kernel
theorem dX4_items_56 : decode cX4_items 56 = .ok (.aload_n 0, 1) := by decide +kernel
theorem dX4_items_57 : decode cX4_items 57 = .ok (.getfield 173, 3) := by decide +kernel
theorem dX4_items_60 : decode cX4_items 60 = .ok (.ifCond .eq 7, 3) := by decide +kernel
theorem dX4_items_63 : decode cX4_items 63 = .ok (.aload_n 0, 1) := by decide +kernel
theorem dX4_items_64 : decode cX4_items 64 = .ok (.invokevirtual 221, 3) := by decide +kernel
theorem dX4_items_67 : decode cX4_items 67 = .ok (.iload_n 1, 1) := by decide +kernel
theorem dX4_items_68 : decode cX4_items 68 = .ok (.ireturn, 1) := by decide +kernel
theorem dX4_evening_0 : decode cX4_evening 0 = .ok (.aload_n 0, 1) := by decide +kernel
theorem dX4_evening_1 : decode cX4_evening 1 = .ok (.getfield 7, 3) := by decide +kernel
theorem dX4_evening_4 : decode cX4_evening 4 = .ok (.aload_n 0, 1) := by decide +kernel
theorem dX4_evening_5 : decode cX4_evening 5 = .ok (.getfield 13, 3) := by decide +kernel
theorem dX4_evening_8 : decode cX4_evening 8 = .ok (.invokestatic 129, 3) := by decide +kernel
theorem dX4_evening_11 : decode cX4_evening 11 = .ok (.aload_n 0, 1) := by decide +kernel
theorem dX4_evening_12 : decode cX4_evening 12 = .ok (.invokevirtual 260, 3) := by decide +kernel
theorem dX4_evening_15 : decode cX4_evening 15 = .ok (.istore_n 1, 1) := by decide +kernel
theorem dX4_evening_16 : decode cX4_evening 16 = .ok (.aload_n 0, 1) := by decide +kernel
theorem dX4_evening_17 : decode cX4_evening 17 = .ok (.iconst 0, 1) := by decide +kernel
theorem dX4_evening_18 : decode cX4_evening 18 = .ok (.putfield 156, 3) := by decide +kernel
theorem dX4_evening_21 : decode cX4_evening 21 = .ok (.aload_n 0, 1) := by decide +kernel
theorem dX4_evening_22 : decode cX4_evening 22 = .ok (.getfield 192, 3) := by decide +kernel
theorem dX4_evening_25 : decode cX4_evening 25 = .ok (.ifCond .lt 21, 3) := by decide +kernel
theorem dX4_evening_28 : decode cX4_evening 28 = .ok (.aload_n 0, 1) := by decide +kernel
theorem dX4_evening_29 : decode cX4_evening 29 = .ok (.getfield 13, 3) := by decide +kernel
theorem dX4_evening_32 : decode cX4_evening 32 = .ok (.aload_n 0, 1) := by decide +kernel
theorem dX4_evening_33 : decode cX4_evening 33 = .ok (.getfield 7, 3) := by decide +kernel
theorem dX4_evening_36 : decode cX4_evening 36 = .ok (.invokestatic 129, 3) := by decide +kernel
theorem dX4_evening_39 : decode cX4_evening 39 = .ok (.iconst (-1), 1) := by decide +kernel
theorem dX4_evening_40 : decode cX4_evening 40 = .ok (.aload_n 0, 1) := by decide +kernel
theorem dX4_evening_41 : decode cX4_evening 41 = .ok (.getfield 192, 3) := by decide +kernel
theorem dX4_evening_44 : decode cX4_evening 44 = .ok (.isub, 1) := by decide +kernel
theorem dX4_evening_45 : decode cX4_evening 45 = .ok (.ireturn, 1) := by decide +kernel
theorem dX4_evening_46 : decode cX4_evening 46 = .ok (.iload_n 1, 1) := by decide +kernel
theorem dX4_evening_47 : decode cX4_evening 47 = .ok (.ireturn, 1) := by decide +kernel
theorem dX4_isSheet_0 : decode cX4_isSheet 0 = .ok (.iload_n 0, 1) := by decide +kernel
theorem dX4_isSheet_1 : decode cX4_isSheet 1 = .ok (.i2l, 1) := by decide +kernel
theorem dX4_isSheet_2 : decode cX4_isSheet 2 = .ok (.lconst 0, 1) := by decide +kernel
theorem dX4_isSheet_3 : decode cX4_isSheet 3 = .ok (.ldc2_w 263, 3) := by decide +kernel
theorem dX4_isSheet_6 : decode cX4_isSheet 6 = .ok (.invokestatic 46, 3) := by decide +kernel
theorem dX4_isSheet_9 : decode cX4_isSheet 9 = .ok (.ireturn, 1) := by decide +kernel
theorem dX4_sheet_0 : decode cX4_sheet 0 = .ok (.iload_n 1, 1) := by decide +kernel
theorem dX4_sheet_1 : decode cX4_sheet 1 = .ok (.invokestatic 265, 3) := by decide +kernel
theorem dX4_sheet_4 : decode cX4_sheet 4 = .ok (.ifCond .eq 25, 3) := by decide +kernel
theorem dX4_sheet_7 : decode cX4_sheet 7 = .ok (.iload_n 2, 1) := by decide +kernel
theorem dX4_sheet_8 : decode cX4_sheet 8 = .ok (.ifCond .eq 27, 3) := by decide +kernel
theorem dX4_sheet_11 : decode cX4_sheet 11 = .ok (.iload_n 2, 1) := by decide +kernel
theorem dX4_sheet_12 : decode cX4_sheet 12 = .ok (.bipush 8, 2) := by decide +kernel
theorem dX4_sheet_14 : decode cX4_sheet 14 = .ok (.if_icmp .eq 21, 3) := by decide +kernel
theorem dX4_sheet_17 : decode cX4_sheet 17 = .ok (.iload_n 2, 1) := by decide +kernel
theorem dX4_sheet_18 : decode cX4_sheet 18 = .ok (.bipush 16, 2) := by decide +kernel
theorem dX4_sheet_20 : decode cX4_sheet 20 = .ok (.if_icmp .eq 15, 3) := by decide +kernel
theorem dX4_sheet_23 : decode cX4_sheet 23 = .ok (.iload_n 2, 1) := by decide +kernel
theorem dX4_sheet_24 : decode cX4_sheet 24 = .ok (.bipush 64, 2) := by decide +kernel
theorem dX4_sheet_26 : decode cX4_sheet 26 = .ok (.if_icmp .eq 9, 3) := by decide +kernel
theorem dX4_sheet_29 : decode cX4_sheet 29 = .ok (.aload_n 0, 1) := by decide +kernel
theorem dX4_sheet_30 : decode cX4_sheet 30 = .ok (.iconst 0, 1) := by decide +kernel
theorem dX4_sheet_31 : decode cX4_sheet 31 = .ok (.invokevirtual 92, 3) := by decide +kernel
theorem dX4_sheet_34 : decode cX4_sheet 34 = .ok (.ireturn, 1) := by decide +kernel
theorem dX4_sheet_35 : decode cX4_sheet 35 = .ok (.iload_n 3, 1) := by decide +kernel
theorem dX4_sheet_36 : decode cX4_sheet 36 = .ok (.ifCond .ge 10, 3) := by decide +kernel
theorem dX4_sheet_39 : decode cX4_sheet 39 = .ok (.aload_n 0, 1) := by decide +kernel
theorem dX4_sheet_40 : decode cX4_sheet 40 = .ok (.bipush 6, 2) := by decide +kernel
theorem dX4_sheet_42 : decode cX4_sheet 42 = .ok (.invokevirtual 92, 3) := by decide +kernel
theorem dX4_sheet_45 : decode cX4_sheet 45 = .ok (.ireturn, 1) := by decide +kernel
theorem dX4_sheet_46 : decode cX4_sheet 46 = .ok (.iload_n 3, 1) := by decide +kernel
theorem dX4_sheet_47 : decode cX4_sheet 47 = .ok (.bipush 40, 2) := by decide +kernel
theorem dX4_sheet_49 : decode cX4_sheet 49 = .ok (.if_icmp .le 9, 3) := by decide +kernel
theorem dX4_sheet_52 : decode cX4_sheet 52 = .ok (.aload_n 0, 1) := by decide +kernel
theorem dX4_sheet_53 : decode cX4_sheet 53 = .ok (.iconst 0, 1) := by decide +kernel
theorem dX4_sheet_54 : decode cX4_sheet 54 = .ok (.invokevirtual 92, 3) := by decide +kernel
theorem dX4_sheet_57 : decode cX4_sheet 57 = .ok (.ireturn, 1) := by decide +kernel
theorem dX4_sheet_58 : decode cX4_sheet 58 = .ok (.aload_n 0, 1) := by decide +kernel
theorem dX4_sheet_59 : decode cX4_sheet 59 = .ok (.getfield 32, 3) := by decide +kernel
theorem dX4_sheet_62 : decode cX4_sheet 62 = .ok (.iload_n 1, 1) := by decide +kernel
theorem dX4_sheet_63 : decode cX4_sheet 63 = .ok (.iload_n 2, 1) := by decide +kernel
theorem dX4_sheet_64 : decode cX4_sheet 64 = .ok (.iastore, 1) := by decide +kernel
theorem dX4_sheet_65 : decode cX4_sheet 65 = .ok (.aload_n 0, 1) := by decide +kernel
theorem dX4_sheet_66 : decode cX4_sheet 66 = .ok (.getfield 35, 3) := by decide +kernel
theorem dX4_sheet_69 : decode cX4_sheet 69 = .ok (.iload_n 1, 1) := by decide +kernel
theorem dX4_sheet_70 : decode cX4_sheet 70 = .ok (.iload_n 2, 1) := by decide +kernel
theorem dX4_sheet_71 : decode cX4_sheet 71 = .ok (.ifCond .ne 7, 3) := by decide +kernel
theorem dX4_sheet_74 : decode cX4_sheet 74 = .ok (.iconst 0, 1) := by decide +kernel
theorem dX4_sheet_75 : decode cX4_sheet 75 = .ok (.goto 4, 3) := by decide +kernel
theorem dX4_sheet_78 : decode cX4_sheet 78 = .ok (.iload_n 3, 1) := by decide +kernel
theorem dX4_sheet_79 : decode cX4_sheet 79 = .ok (.iastore, 1) := by decide +kernel
theorem dX4_sheet_80 : decode cX4_sheet 80 = .ok (.iconst 0, 1) := by decide +kernel
theorem dX4_sheet_81 : decode cX4_sheet 81 = .ok (.istore 4, 2) := by decide +kernel
theorem dX4_sheet_83 : decode cX4_sheet 83 = .ok (.iload 4, 2) := by decide +kernel
theorem dX4_sheet_85 : decode cX4_sheet 85 = .ok (.bipush 40, 2) := by decide +kernel
theorem dX4_sheet_87 : decode cX4_sheet 87 = .ok (.if_icmp .ge 22, 3) := by decide +kernel
theorem dX4_sheet_90 : decode cX4_sheet 90 = .ok (.aload_n 0, 1) := by decide +kernel
theorem dX4_sheet_91 : decode cX4_sheet 91 = .ok (.getfield 38, 3) := by decide +kernel
theorem dX4_sheet_94 : decode cX4_sheet 94 = .ok (.bipush 40, 2) := by decide +kernel
theorem dX4_sheet_96 : decode cX4_sheet 96 = .ok (.iload_n 1, 1) := by decide +kernel
theorem dX4_sheet_97 : decode cX4_sheet 97 = .ok (.imul, 1) := by decide +kernel
theorem dX4_sheet_98 : decode cX4_sheet 98 = .ok (.iload 4, 2) := by decide +kernel
theorem dX4_sheet_100 : decode cX4_sheet 100 = .ok (.iadd, 1) := by decide +kernel
theorem dX4_sheet_101 : decode cX4_sheet 101 = .ok (.lconst 0, 1) := by decide +kernel
theorem dX4_sheet_102 : decode cX4_sheet 102 = .ok (.lastore, 1) := by decide +kernel
theorem dX4_sheet_103 : decode cX4_sheet 103 = .ok (.iinc 4 1, 3) := by decide +kernel
theorem dX4_sheet_106 : decode cX4_sheet 106 = .ok (.goto (-23), 3) := by decide +kernel
theorem dX4_sheet_109 : decode cX4_sheet 109 = .ok (.aload_n 0, 1) := by decide +kernel
theorem dX4_sheet_110 : decode cX4_sheet 110 = .ok (.getfield 35, 3) := by decide +kernel
theorem dX4_sheet_113 : decode cX4_sheet 113 = .ok (.iload_n 1, 1) := by decide +kernel
theorem dX4_sheet_114 : decode cX4_sheet 114 = .ok (.iaload, 1) := by decide +kernel
theorem dX4_sheet_115 : decode cX4_sheet 115 = .ok (.ireturn, 1) := by decide +kernel
theorem dX4_whyNone_0 : decode cX4_whyNone 0 = .ok (.iload_n 1, 1) := by decide +kernel
theorem dX4_whyNone_1 : decode cX4_whyNone 1 = .ok (.invokestatic 265, 3) := by decide +kernel
theorem dX4_whyNone_4 : decode cX4_whyNone 4 = .ok (.ifCond .ne 7, 3) := by decide +kernel
theorem dX4_whyNone_7 : decode cX4_whyNone 7 = .ok (.iconst 0, 1) := by decide +kernel
theorem dX4_whyNone_8 : decode cX4_whyNone 8 = .ok (.goto 17, 3) := by decide +kernel
theorem dX4_whyNone_11 : decode cX4_whyNone 11 = .ok (.aload_n 0, 1) := by decide +kernel
theorem dX4_whyNone_12 : decode cX4_whyNone 12 = .ok (.getfield 32, 3) := by decide +kernel
theorem dX4_whyNone_15 : decode cX4_whyNone 15 = .ok (.iload_n 1, 1) := by decide +kernel
theorem dX4_whyNone_16 : decode cX4_whyNone 16 = .ok (.iaload, 1) := by decide +kernel
theorem dX4_whyNone_17 : decode cX4_whyNone 17 = .ok (.ifCond .ne 7, 3) := by decide +kernel
theorem dX4_whyNone_20 : decode cX4_whyNone 20 = .ok (.iconst 5, 1) := by decide +kernel
theorem dX4_whyNone_21 : decode cX4_whyNone 21 = .ok (.goto 4, 3) := by decide +kernel
theorem dX4_whyNone_24 : decode cX4_whyNone 24 = .ok (.iconst (-1), 1) := by decide +kernel
theorem dX4_whyNone_25 : decode cX4_whyNone 25 = .ok (.ireturn, 1) := by decide +kernel
theorem dX4_puts_0 : decode cX4_puts 0 = .ok (.aload_n 0, 1) := by decide +kernel
theorem dX4_puts_1 : decode cX4_puts 1 = .ok (.getfield 38, 3) := by decide +kernel
theorem dX4_puts_4 : decode cX4_puts 4 = .ok (.bipush 40, 2) := by decide +kernel
theorem dX4_puts_6 : decode cX4_puts 6 = .ok (.iload_n 1, 1) := by decide +kernel
theorem dX4_puts_7 : decode cX4_puts 7 = .ok (.imul, 1) := by decide +kernel
theorem dX4_puts_8 : decode cX4_puts 8 = .ok (.iload_n 2, 1) := by decide +kernel
theorem dX4_puts_9 : decode cX4_puts 9 = .ok (.iadd, 1) := by decide +kernel
theorem dX4_puts_10 : decode cX4_puts 10 = .ok (.aload_n 0, 1) := by decide +kernel
theorem dX4_puts_11 : decode cX4_puts 11 = .ok (.getfield 32, 3) := by decide +kernel
theorem dX4_puts_14 : decode cX4_puts 14 = .ok (.iload_n 1, 1) := by decide +kernel
theorem dX4_puts_15 : decode cX4_puts 15 = .ok (.iaload, 1) := by decide +kernel
theorem dX4_puts_16 : decode cX4_puts 16 = .ok (.bipush 8, 2) := by decide +kernel
theorem dX4_puts_18 : decode cX4_puts 18 = .ok (.if_icmp .ne 10, 3) := by decide +kernel
theorem dX4_puts_21 : decode cX4_puts 21 = .ok (.lload_n 3, 1) := by decide +kernel
theorem dX4_puts_22 : decode cX4_puts 22 = .ok (.l2i, 1) := by decide +kernel
theorem dX4_puts_23 : decode cX4_puts 23 = .ok (.i2b, 1) := by decide +kernel
theorem dX4_puts_24 : decode cX4_puts 24 = .ok (.i2l, 1) := by decide +kernel
theorem dX4_puts_25 : decode cX4_puts 25 = .ok (.goto 22, 3) := by decide +kernel
theorem dX4_puts_28 : decode cX4_puts 28 = .ok (.aload_n 0, 1) := by decide +kernel
theorem dX4_puts_29 : decode cX4_puts 29 = .ok (.getfield 32, 3) := by decide +kernel
theorem dX4_puts_32 : decode cX4_puts 32 = .ok (.iload_n 1, 1) := by decide +kernel
theorem dX4_puts_33 : decode cX4_puts 33 = .ok (.iaload, 1) := by decide +kernel
theorem dX4_puts_34 : decode cX4_puts 34 = .ok (.bipush 16, 2) := by decide +kernel
theorem dX4_puts_36 : decode cX4_puts 36 = .ok (.if_icmp .ne 10, 3) := by decide +kernel
theorem dX4_puts_39 : decode cX4_puts 39 = .ok (.lload_n 3, 1) := by decide +kernel
theorem dX4_puts_40 : decode cX4_puts 40 = .ok (.l2i, 1) := by decide +kernel
theorem dX4_puts_41 : decode cX4_puts 41 = .ok (.i2s, 1) := by decide +kernel
theorem dX4_puts_42 : decode cX4_puts 42 = .ok (.i2l, 1) := by decide +kernel
theorem dX4_puts_43 : decode cX4_puts 43 = .ok (.goto 4, 3) := by decide +kernel
theorem dX4_puts_46 : decode cX4_puts 46 = .ok (.lload_n 3, 1) := by decide +kernel
theorem dX4_puts_47 : decode cX4_puts 47 = .ok (.lastore, 1) := by decide +kernel
theorem dX4_puts_48 : decode cX4_puts 48 = .ok (.return_, 1) := by decide +kernel
theorem dX4_write_0 : decode cX4_write 0 = .ok (.aload_n 0, 1) := by decide +kernel
theorem dX4_write_1 : decode cX4_write 1 = .ok (.iload_n 1, 1) := by decide +kernel
theorem dX4_write_2 : decode cX4_write 2 = .ok (.invokevirtual 268, 3) := by decide +kernel
theorem dX4_write_5 : decode cX4_write 5 = .ok (.istore 5, 2) := by decide +kernel
theorem dX4_write_7 : decode cX4_write 7 = .ok (.iload 5, 2) := by decide +kernel
theorem dX4_write_9 : decode cX4_write 9 = .ok (.ifCond .ge 25, 3) := by decide +kernel
theorem dX4_write_12 : decode cX4_write 12 = .ok (.iload_n 2, 1) := by decide +kernel
theorem dX4_write_13 : decode cX4_write 13 = .ok (.i2l, 1) := by decide +kernel
theorem dX4_write_14 : decode cX4_write 14 = .ok (.lconst 0, 1) := by decide +kernel
theorem dX4_write_15 : decode cX4_write 15 = .ok (.aload_n 0, 1) := by decide +kernel
theorem dX4_write_16 : decode cX4_write 16 = .ok (.getfield 35, 3) := by decide +kernel
theorem dX4_write_19 : decode cX4_write 19 = .ok (.iload_n 1, 1) := by decide +kernel
theorem dX4_write_20 : decode cX4_write 20 = .ok (.iaload, 1) := by decide +kernel
theorem dX4_write_21 : decode cX4_write 21 = .ok (.iconst 1, 1) := by decide +kernel
theorem dX4_write_22 : decode cX4_write 22 = .ok (.isub, 1) := by decide +kernel
theorem dX4_write_23 : decode cX4_write 23 = .ok (.i2l, 1) := by decide +kernel
theorem dX4_write_24 : decode cX4_write 24 = .ok (.invokestatic 46, 3) := by decide +kernel
theorem dX4_write_27 : decode cX4_write 27 = .ok (.ifCond .ne 7, 3) := by decide +kernel
theorem dX4_write_30 : decode cX4_write 30 = .ok (.iconst 0, 1) := by decide +kernel
theorem dX4_write_31 : decode cX4_write 31 = .ok (.goto 5, 3) := by decide +kernel
theorem dX4_write_34 : decode cX4_write 34 = .ok (.iload 5, 2) := by decide +kernel
theorem dX4_write_36 : decode cX4_write 36 = .ok (.istore 5, 2) := by decide +kernel
theorem dX4_write_38 : decode cX4_write 38 = .ok (.iload 5, 2) := by decide +kernel
theorem dX4_write_40 : decode cX4_write 40 = .ok (.ifCond .lt 11, 3) := by decide +kernel
theorem dX4_write_43 : decode cX4_write 43 = .ok (.aload_n 0, 1) := by decide +kernel
theorem dX4_write_44 : decode cX4_write 44 = .ok (.iload 5, 2) := by decide +kernel
theorem dX4_write_46 : decode cX4_write 46 = .ok (.invokevirtual 92, 3) := by decide +kernel
theorem dX4_write_49 : decode cX4_write 49 = .ok (.i2l, 1) := by decide +kernel
theorem dX4_write_50 : decode cX4_write 50 = .ok (.lreturn, 1) := by decide +kernel
theorem dX4_write_51 : decode cX4_write 51 = .ok (.aload_n 0, 1) := by decide +kernel
theorem dX4_write_52 : decode cX4_write 52 = .ok (.getfield 38, 3) := by decide +kernel
theorem dX4_write_55 : decode cX4_write 55 = .ok (.bipush 40, 2) := by decide +kernel
theorem dX4_write_57 : decode cX4_write 57 = .ok (.iload_n 1, 1) := by decide +kernel
theorem dX4_write_58 : decode cX4_write 58 = .ok (.imul, 1) := by decide +kernel
theorem dX4_write_59 : decode cX4_write 59 = .ok (.iload_n 2, 1) := by decide +kernel
theorem dX4_write_60 : decode cX4_write 60 = .ok (.iadd, 1) := by decide +kernel
theorem dX4_write_61 : decode cX4_write 61 = .ok (.laload, 1) := by decide +kernel
theorem dX4_write_62 : decode cX4_write 62 = .ok (.lstore 6, 2) := by decide +kernel
theorem dX4_write_64 : decode cX4_write 64 = .ok (.aload_n 0, 1) := by decide +kernel
theorem dX4_write_65 : decode cX4_write 65 = .ok (.iload_n 1, 1) := by decide +kernel
theorem dX4_write_66 : decode cX4_write 66 = .ok (.iload_n 2, 1) := by decide +kernel
theorem dX4_write_67 : decode cX4_write 67 = .ok (.lload_n 3, 1) := by decide +kernel
theorem dX4_write_68 : decode cX4_write 68 = .ok (.invokevirtual 271, 3) := by decide +kernel
theorem dX4_write_71 : decode cX4_write 71 = .ok (.lload 6, 2) := by decide +kernel
theorem dX4_write_73 : decode cX4_write 73 = .ok (.lreturn, 1) := by decide +kernel
theorem dX4_copy_0 : decode cX4_copy 0 = .ok (.iload_n 1, 1) := by decide +kernel
theorem dX4_copy_1 : decode cX4_copy 1 = .ok (.invokestatic 265, 3) := by decide +kernel
theorem dX4_copy_4 : decode cX4_copy 4 = .ok (.ifCond .eq 10, 3) := by decide +kernel
theorem dX4_copy_7 : decode cX4_copy 7 = .ok (.iload_n 3, 1) := by decide +kernel
theorem dX4_copy_8 : decode cX4_copy 8 = .ok (.invokestatic 265, 3) := by decide +kernel
theorem dX4_copy_11 : decode cX4_copy 11 = .ok (.ifCond .ne 9, 3) := by decide +kernel
theorem dX4_copy_14 : decode cX4_copy 14 = .ok (.aload_n 0, 1) := by decide +kernel
theorem dX4_copy_15 : decode cX4_copy 15 = .ok (.iconst 0, 1) := by decide +kernel
theorem dX4_copy_16 : decode cX4_copy 16 = .ok (.invokevirtual 92, 3) := by decide +kernel
theorem dX4_copy_19 : decode cX4_copy 19 = .ok (.ireturn, 1) := by decide +kernel
theorem dX4_copy_20 : decode cX4_copy 20 = .ok (.aload_n 0, 1) := by decide +kernel
theorem dX4_copy_21 : decode cX4_copy 21 = .ok (.getfield 32, 3) := by decide +kernel
theorem dX4_copy_24 : decode cX4_copy 24 = .ok (.iload_n 1, 1) := by decide +kernel
theorem dX4_copy_25 : decode cX4_copy 25 = .ok (.iaload, 1) := by decide +kernel
theorem dX4_copy_26 : decode cX4_copy 26 = .ok (.ifCond .eq 12, 3) := by decide +kernel
theorem dX4_copy_29 : decode cX4_copy 29 = .ok (.aload_n 0, 1) := by decide +kernel
theorem dX4_copy_30 : decode cX4_copy 30 = .ok (.getfield 32, 3) := by decide +kernel
theorem dX4_copy_33 : decode cX4_copy 33 = .ok (.iload_n 3, 1) := by decide +kernel
theorem dX4_copy_34 : decode cX4_copy 34 = .ok (.iaload, 1) := by decide +kernel
theorem dX4_copy_35 : decode cX4_copy 35 = .ok (.ifCond .ne 9, 3) := by decide +kernel
theorem dX4_copy_38 : decode cX4_copy 38 = .ok (.aload_n 0, 1) := by decide +kernel
theorem dX4_copy_39 : decode cX4_copy 39 = .ok (.iconst 5, 1) := by decide +kernel
theorem dX4_copy_40 : decode cX4_copy 40 = .ok (.invokevirtual 92, 3) := by decide +kernel
theorem dX4_copy_43 : decode cX4_copy 43 = .ok (.ireturn, 1) := by decide +kernel
theorem dX4_copy_44 : decode cX4_copy 44 = .ok (.aload_n 0, 1) := by decide +kernel
theorem dX4_copy_45 : decode cX4_copy 45 = .ok (.getfield 32, 3) := by decide +kernel
theorem dX4_copy_48 : decode cX4_copy 48 = .ok (.iload_n 1, 1) := by decide +kernel
theorem dX4_copy_49 : decode cX4_copy 49 = .ok (.iaload, 1) := by decide +kernel
theorem dX4_copy_50 : decode cX4_copy 50 = .ok (.aload_n 0, 1) := by decide +kernel
theorem dX4_copy_51 : decode cX4_copy 51 = .ok (.getfield 32, 3) := by decide +kernel
theorem dX4_copy_54 : decode cX4_copy 54 = .ok (.iload_n 3, 1) := by decide +kernel
theorem dX4_copy_55 : decode cX4_copy 55 = .ok (.iaload, 1) := by decide +kernel
theorem dX4_copy_56 : decode cX4_copy 56 = .ok (.if_icmp .eq 9, 3) := by decide +kernel
theorem dX4_copy_59 : decode cX4_copy 59 = .ok (.aload_n 0, 1) := by decide +kernel
theorem dX4_copy_60 : decode cX4_copy 60 = .ok (.iconst 2, 1) := by decide +kernel
theorem dX4_copy_61 : decode cX4_copy 61 = .ok (.invokevirtual 92, 3) := by decide +kernel
theorem dX4_copy_64 : decode cX4_copy 64 = .ok (.ireturn, 1) := by decide +kernel
theorem dX4_copy_65 : decode cX4_copy 65 = .ok (.iload_n 2, 1) := by decide +kernel
theorem dX4_copy_66 : decode cX4_copy 66 = .ok (.ifCond .lt 48, 3) := by decide +kernel
theorem dX4_copy_69 : decode cX4_copy 69 = .ok (.iload 4, 2) := by decide +kernel
theorem dX4_copy_71 : decode cX4_copy 71 = .ok (.ifCond .lt 43, 3) := by decide +kernel
theorem dX4_copy_74 : decode cX4_copy 74 = .ok (.iload 5, 2) := by decide +kernel
theorem dX4_copy_76 : decode cX4_copy 76 = .ok (.ifCond .lt 38, 3) := by decide +kernel
theorem dX4_copy_79 : decode cX4_copy 79 = .ok (.iload_n 2, 1) := by decide +kernel
theorem dX4_copy_80 : decode cX4_copy 80 = .ok (.i2l, 1) := by decide +kernel
theorem dX4_copy_81 : decode cX4_copy 81 = .ok (.iload 5, 2) := by decide +kernel
theorem dX4_copy_83 : decode cX4_copy 83 = .ok (.i2l, 1) := by decide +kernel
theorem dX4_copy_84 : decode cX4_copy 84 = .ok (.ladd, 1) := by decide +kernel
theorem dX4_copy_85 : decode cX4_copy 85 = .ok (.aload_n 0, 1) := by decide +kernel
theorem dX4_copy_86 : decode cX4_copy 86 = .ok (.getfield 35, 3) := by decide +kernel
theorem dX4_copy_89 : decode cX4_copy 89 = .ok (.iload_n 1, 1) := by decide +kernel
theorem dX4_copy_90 : decode cX4_copy 90 = .ok (.iaload, 1) := by decide +kernel
theorem dX4_copy_91 : decode cX4_copy 91 = .ok (.i2l, 1) := by decide +kernel
theorem dX4_copy_92 : decode cX4_copy 92 = .ok (.lcmp, 1) := by decide +kernel
theorem dX4_copy_93 : decode cX4_copy 93 = .ok (.ifCond .gt 21, 3) := by decide +kernel
theorem dX4_copy_96 : decode cX4_copy 96 = .ok (.iload 4, 2) := by decide +kernel
theorem dX4_copy_98 : decode cX4_copy 98 = .ok (.i2l, 1) := by decide +kernel
theorem dX4_copy_99 : decode cX4_copy 99 = .ok (.iload 5, 2) := by decide +kernel
theorem dX4_copy_101 : decode cX4_copy 101 = .ok (.i2l, 1) := by decide +kernel
theorem dX4_copy_102 : decode cX4_copy 102 = .ok (.ladd, 1) := by decide +kernel
theorem dX4_copy_103 : decode cX4_copy 103 = .ok (.aload_n 0, 1) := by decide +kernel
theorem dX4_copy_104 : decode cX4_copy 104 = .ok (.getfield 35, 3) := by decide +kernel
theorem dX4_copy_107 : decode cX4_copy 107 = .ok (.iload_n 3, 1) := by decide +kernel
theorem dX4_copy_108 : decode cX4_copy 108 = .ok (.iaload, 1) := by decide +kernel
theorem dX4_copy_109 : decode cX4_copy 109 = .ok (.i2l, 1) := by decide +kernel
theorem dX4_copy_110 : decode cX4_copy 110 = .ok (.lcmp, 1) := by decide +kernel
theorem dX4_copy_111 : decode cX4_copy 111 = .ok (.ifCond .le 9, 3) := by decide +kernel
theorem dX4_copy_114 : decode cX4_copy 114 = .ok (.aload_n 0, 1) := by decide +kernel
theorem dX4_copy_115 : decode cX4_copy 115 = .ok (.iconst 0, 1) := by decide +kernel
theorem dX4_copy_116 : decode cX4_copy 116 = .ok (.invokevirtual 92, 3) := by decide +kernel
theorem dX4_copy_119 : decode cX4_copy 119 = .ok (.ireturn, 1) := by decide +kernel
theorem dX4_copy_120 : decode cX4_copy 120 = .ok (.iconst 0, 1) := by decide +kernel
theorem dX4_copy_121 : decode cX4_copy 121 = .ok (.istore 6, 2) := by decide +kernel
theorem dX4_copy_123 : decode cX4_copy 123 = .ok (.iload 6, 2) := by decide +kernel
theorem dX4_copy_125 : decode cX4_copy 125 = .ok (.iload 5, 2) := by decide +kernel
theorem dX4_copy_127 : decode cX4_copy 127 = .ok (.if_icmp .ge 30, 3) := by decide +kernel
theorem dX4_copy_130 : decode cX4_copy 130 = .ok (.aload_n 0, 1) := by decide +kernel
theorem dX4_copy_131 : decode cX4_copy 131 = .ok (.getfield 42, 3) := by decide +kernel
theorem dX4_copy_134 : decode cX4_copy 134 = .ok (.iload 6, 2) := by decide +kernel
theorem dX4_copy_136 : decode cX4_copy 136 = .ok (.aload_n 0, 1) := by decide +kernel
theorem dX4_copy_137 : decode cX4_copy 137 = .ok (.getfield 38, 3) := by decide +kernel
theorem dX4_copy_140 : decode cX4_copy 140 = .ok (.bipush 40, 2) := by decide +kernel
theorem dX4_copy_142 : decode cX4_copy 142 = .ok (.iload_n 1, 1) := by decide +kernel
theorem dX4_copy_143 : decode cX4_copy 143 = .ok (.imul, 1) := by decide +kernel
theorem dX4_copy_144 : decode cX4_copy 144 = .ok (.iload_n 2, 1) := by decide +kernel
theorem dX4_copy_145 : decode cX4_copy 145 = .ok (.iadd, 1) := by decide +kernel
theorem dX4_copy_146 : decode cX4_copy 146 = .ok (.iload 6, 2) := by decide +kernel
theorem dX4_copy_148 : decode cX4_copy 148 = .ok (.iadd, 1) := by decide +kernel
theorem dX4_copy_149 : decode cX4_copy 149 = .ok (.laload, 1) := by decide +kernel
theorem dX4_copy_150 : decode cX4_copy 150 = .ok (.lastore, 1) := by decide +kernel
theorem dX4_copy_151 : decode cX4_copy 151 = .ok (.iinc 6 1, 3) := by decide +kernel
theorem dX4_copy_154 : decode cX4_copy 154 = .ok (.goto (-31), 3) := by decide +kernel
theorem dX4_copy_157 : decode cX4_copy 157 = .ok (.iconst 0, 1) := by decide +kernel
theorem dX4_copy_158 : decode cX4_copy 158 = .ok (.istore 6, 2) := by decide +kernel
theorem dX4_copy_160 : decode cX4_copy 160 = .ok (.iload 6, 2) := by decide +kernel
theorem dX4_copy_162 : decode cX4_copy 162 = .ok (.iload 5, 2) := by decide +kernel
theorem dX4_copy_164 : decode cX4_copy 164 = .ok (.if_icmp .ge 31, 3) := by decide +kernel
theorem dX4_copy_167 : decode cX4_copy 167 = .ok (.aload_n 0, 1) := by decide +kernel
theorem dX4_copy_168 : decode cX4_copy 168 = .ok (.getfield 38, 3) := by decide +kernel
theorem dX4_copy_171 : decode cX4_copy 171 = .ok (.bipush 40, 2) := by decide +kernel
theorem dX4_copy_173 : decode cX4_copy 173 = .ok (.iload_n 3, 1) := by decide +kernel
theorem dX4_copy_174 : decode cX4_copy 174 = .ok (.imul, 1) := by decide +kernel
theorem dX4_copy_175 : decode cX4_copy 175 = .ok (.iload 4, 2) := by decide +kernel
theorem dX4_copy_177 : decode cX4_copy 177 = .ok (.iadd, 1) := by decide +kernel
theorem dX4_copy_178 : decode cX4_copy 178 = .ok (.iload 6, 2) := by decide +kernel
theorem dX4_copy_180 : decode cX4_copy 180 = .ok (.iadd, 1) := by decide +kernel
theorem dX4_copy_181 : decode cX4_copy 181 = .ok (.aload_n 0, 1) := by decide +kernel
theorem dX4_copy_182 : decode cX4_copy 182 = .ok (.getfield 42, 3) := by decide +kernel
theorem dX4_copy_185 : decode cX4_copy 185 = .ok (.iload 6, 2) := by decide +kernel
theorem dX4_copy_187 : decode cX4_copy 187 = .ok (.laload, 1) := by decide +kernel
theorem dX4_copy_188 : decode cX4_copy 188 = .ok (.lastore, 1) := by decide +kernel
theorem dX4_copy_189 : decode cX4_copy 189 = .ok (.iinc 6 1, 3) := by decide +kernel
theorem dX4_copy_192 : decode cX4_copy 192 = .ok (.goto (-32), 3) := by decide +kernel
theorem dX4_copy_195 : decode cX4_copy 195 = .ok (.iload 5, 2) := by decide +kernel
theorem dX4_copy_197 : decode cX4_copy 197 = .ok (.ireturn, 1) := by decide +kernel
theorem dX4_lays_0 : decode cX4_lays 0 = .ok (.aload_n 0, 1) := by decide +kernel
theorem dX4_lays_1 : decode cX4_lays 1 = .ok (.iload_n 1, 1) := by decide +kernel
theorem dX4_lays_2 : decode cX4_lays 2 = .ok (.invokevirtual 268, 3) := by decide +kernel
theorem dX4_lays_5 : decode cX4_lays 5 = .ok (.istore_n 2, 1) := by decide +kernel
theorem dX4_lays_6 : decode cX4_lays 6 = .ok (.iload_n 2, 1) := by decide +kernel
theorem dX4_lays_7 : decode cX4_lays 7 = .ok (.ifCond .lt 9, 3) := by decide +kernel
theorem dX4_lays_10 : decode cX4_lays 10 = .ok (.aload_n 0, 1) := by decide +kernel
theorem dX4_lays_11 : decode cX4_lays 11 = .ok (.iload_n 2, 1) := by decide +kernel
theorem dX4_lays_12 : decode cX4_lays 12 = .ok (.invokevirtual 92, 3) := by decide +kernel
theorem dX4_lays_15 : decode cX4_lays 15 = .ok (.ireturn, 1) := by decide +kernel
theorem dX4_lays_16 : decode cX4_lays 16 = .ok (.iconst 0, 1) := by decide +kernel
theorem dX4_lays_17 : decode cX4_lays 17 = .ok (.istore_n 3, 1) := by decide +kernel
theorem dX4_lays_18 : decode cX4_lays 18 = .ok (.iconst 0, 1) := by decide +kernel
theorem dX4_lays_19 : decode cX4_lays 19 = .ok (.istore 4, 2) := by decide +kernel
theorem dX4_lays_21 : decode cX4_lays 21 = .ok (.iload 4, 2) := by decide +kernel
theorem dX4_lays_23 : decode cX4_lays 23 = .ok (.aload_n 0, 1) := by decide +kernel
theorem dX4_lays_24 : decode cX4_lays 24 = .ok (.getfield 35, 3) := by decide +kernel
theorem dX4_lays_27 : decode cX4_lays 27 = .ok (.iload_n 1, 1) := by decide +kernel
theorem dX4_lays_28 : decode cX4_lays 28 = .ok (.iaload, 1) := by decide +kernel
theorem dX4_lays_29 : decode cX4_lays 29 = .ok (.if_icmp .ge 65, 3) := by decide +kernel
theorem dX4_lays_32 : decode cX4_lays 32 = .ok (.iload 4, 2) := by decide +kernel
theorem dX4_lays_34 : decode cX4_lays 34 = .ok (.aload_n 0, 1) := by decide +kernel
theorem dX4_lays_35 : decode cX4_lays 35 = .ok (.getfield 7, 3) := by decide +kernel
theorem dX4_lays_38 : decode cX4_lays 38 = .ok (.iconst 0, 1) := by decide +kernel
theorem dX4_lays_39 : decode cX4_lays 39 = .ok (.iaload, 1) := by decide +kernel
theorem dX4_lays_40 : decode cX4_lays 40 = .ok (.if_icmp .ge 54, 3) := by decide +kernel
theorem dX4_lays_43 : decode cX4_lays 43 = .ok (.aload_n 0, 1) := by decide +kernel
theorem dX4_lays_44 : decode cX4_lays 44 = .ok (.getfield 38, 3) := by decide +kernel
theorem dX4_lays_47 : decode cX4_lays 47 = .ok (.bipush 40, 2) := by decide +kernel
theorem dX4_lays_49 : decode cX4_lays 49 = .ok (.iload_n 1, 1) := by decide +kernel
theorem dX4_lays_50 : decode cX4_lays 50 = .ok (.imul, 1) := by decide +kernel
theorem dX4_lays_51 : decode cX4_lays 51 = .ok (.iload 4, 2) := by decide +kernel
theorem dX4_lays_53 : decode cX4_lays 53 = .ok (.iadd, 1) := by decide +kernel
theorem dX4_lays_54 : decode cX4_lays 54 = .ok (.laload, 1) := by decide +kernel
theorem dX4_lays_55 : decode cX4_lays 55 = .ok (.lconst 0, 1) := by decide +kernel
theorem dX4_lays_56 : decode cX4_lays 56 = .ok (.ldc2_w 113, 3) := by decide +kernel
theorem dX4_lays_59 : decode cX4_lays 59 = .ok (.invokestatic 46, 3) := by decide +kernel
theorem dX4_lays_62 : decode cX4_lays 62 = .ok (.ifCond .eq 26, 3) := by decide +kernel
theorem dX4_lays_65 : decode cX4_lays 65 = .ok (.aload_n 0, 1) := by decide +kernel
theorem dX4_lays_66 : decode cX4_lays 66 = .ok (.iload 4, 2) := by decide +kernel
theorem dX4_lays_68 : decode cX4_lays 68 = .ok (.iconst 1, 1) := by decide +kernel
theorem dX4_lays_69 : decode cX4_lays 69 = .ok (.aload_n 0, 1) := by decide +kernel
theorem dX4_lays_70 : decode cX4_lays 70 = .ok (.getfield 38, 3) := by decide +kernel
theorem dX4_lays_73 : decode cX4_lays 73 = .ok (.bipush 40, 2) := by decide +kernel
theorem dX4_lays_75 : decode cX4_lays 75 = .ok (.iload_n 1, 1) := by decide +kernel
theorem dX4_lays_76 : decode cX4_lays 76 = .ok (.imul, 1) := by decide +kernel
theorem dX4_lays_77 : decode cX4_lays 77 = .ok (.iload 4, 2) := by decide +kernel
theorem dX4_lays_79 : decode cX4_lays 79 = .ok (.iadd, 1) := by decide +kernel
theorem dX4_lays_80 : decode cX4_lays 80 = .ok (.laload, 1) := by decide +kernel
theorem dX4_lays_81 : decode cX4_lays 81 = .ok (.l2i, 1) := by decide +kernel
theorem dX4_lays_82 : decode cX4_lays 82 = .ok (.invokevirtual 73, 3) := by decide +kernel
theorem dX4_lays_85 : decode cX4_lays 85 = .ok (.iinc 3 1, 3) := by decide +kernel
theorem dX4_lays_88 : decode cX4_lays 88 = .ok (.iinc 4 1, 3) := by decide +kernel
theorem dX4_lays_91 : decode cX4_lays 91 = .ok (.goto (-70), 3) := by decide +kernel
theorem dX4_lays_94 : decode cX4_lays 94 = .ok (.iload_n 3, 1) := by decide +kernel
theorem dX4_lays_95 : decode cX4_lays 95 = .ok (.ireturn, 1) := by decide +kernel
theorem dX4_book_0 : decode cX4_book 0 = .ok (.aload_n 0, 1) := by decide +kernel
theorem dX4_book_1 : decode cX4_book 1 = .ok (.iload_n 1, 1) := by decide +kernel
theorem dX4_book_2 : decode cX4_book 2 = .ok (.invokevirtual 268, 3) := by decide +kernel
theorem dX4_book_5 : decode cX4_book 5 = .ok (.istore_n 3, 1) := by decide +kernel
theorem dX4_book_6 : decode cX4_book 6 = .ok (.iload_n 3, 1) := by decide +kernel
theorem dX4_book_7 : decode cX4_book 7 = .ok (.ifCond .ge 15, 3) := by decide +kernel
theorem dX4_book_10 : decode cX4_book 10 = .ok (.aload_n 0, 1) := by decide +kernel
theorem dX4_book_11 : decode cX4_book 11 = .ok (.iload_n 2, 1) := by decide +kernel
theorem dX4_book_12 : decode cX4_book 12 = .ok (.invokevirtual 50, 3) := by decide +kernel
theorem dX4_book_15 : decode cX4_book 15 = .ok (.ifCond .ne 7, 3) := by decide +kernel
theorem dX4_book_18 : decode cX4_book 18 = .ok (.iconst 0, 1) := by decide +kernel
theorem dX4_book_19 : decode cX4_book 19 = .ok (.goto 4, 3) := by decide +kernel
theorem dX4_book_22 : decode cX4_book 22 = .ok (.iload_n 3, 1) := by decide +kernel
theorem dX4_book_23 : decode cX4_book 23 = .ok (.istore_n 3, 1) := by decide +kernel
theorem dX4_book_24 : decode cX4_book 24 = .ok (.iload_n 3, 1) := by decide +kernel
theorem dX4_book_25 : decode cX4_book 25 = .ok (.ifCond .lt 9, 3) := by decide +kernel
theorem dX4_book_28 : decode cX4_book 28 = .ok (.aload_n 0, 1) := by decide +kernel
theorem dX4_book_29 : decode cX4_book 29 = .ok (.iload_n 3, 1) := by decide +kernel
theorem dX4_book_30 : decode cX4_book 30 = .ok (.invokevirtual 92, 3) := by decide +kernel
theorem dX4_book_33 : decode cX4_book 33 = .ok (.ireturn, 1) := by decide +kernel
theorem dX4_book_34 : decode cX4_book 34 = .ok (.aload_n 0, 1) := by decide +kernel
theorem dX4_book_35 : decode cX4_book 35 = .ok (.getfield 7, 3) := by decide +kernel
theorem dX4_book_38 : decode cX4_book 38 = .ok (.aload_n 0, 1) := by decide +kernel
theorem dX4_book_39 : decode cX4_book 39 = .ok (.getfield 16, 3) := by decide +kernel
theorem dX4_book_42 : decode cX4_book 42 = .ok (.invokestatic 129, 3) := by decide +kernel
theorem dX4_book_45 : decode cX4_book 45 = .ok (.iconst 0, 1) := by decide +kernel
theorem dX4_book_46 : decode cX4_book 46 = .ok (.istore 4, 2) := by decide +kernel
theorem dX4_book_48 : decode cX4_book 48 = .ok (.iload 4, 2) := by decide +kernel
theorem dX4_book_50 : decode cX4_book 50 = .ok (.aload_n 0, 1) := by decide +kernel
theorem dX4_book_51 : decode cX4_book 51 = .ok (.getfield 35, 3) := by decide +kernel
theorem dX4_book_54 : decode cX4_book 54 = .ok (.iload_n 1, 1) := by decide +kernel
theorem dX4_book_55 : decode cX4_book 55 = .ok (.iaload, 1) := by decide +kernel
theorem dX4_book_56 : decode cX4_book 56 = .ok (.if_icmp .ge 26, 3) := by decide +kernel
theorem dX4_book_59 : decode cX4_book 59 = .ok (.aload_n 0, 1) := by decide +kernel
theorem dX4_book_60 : decode cX4_book 60 = .ok (.iload_n 1, 1) := by decide +kernel
theorem dX4_book_61 : decode cX4_book 61 = .ok (.iload 4, 2) := by decide +kernel
theorem dX4_book_63 : decode cX4_book 63 = .ok (.aload_n 0, 1) := by decide +kernel
theorem dX4_book_64 : decode cX4_book 64 = .ok (.iload_n 2, 1) := by decide +kernel
theorem dX4_book_65 : decode cX4_book 65 = .ok (.invokevirtual 66, 3) := by decide +kernel
theorem dX4_book_68 : decode cX4_book 68 = .ok (.i2l, 1) := by decide +kernel
theorem dX4_book_69 : decode cX4_book 69 = .ok (.invokevirtual 271, 3) := by decide +kernel
theorem dX4_book_72 : decode cX4_book 72 = .ok (.aload_n 0, 1) := by decide +kernel
theorem dX4_book_73 : decode cX4_book 73 = .ok (.invokevirtual 80, 3) := by decide +kernel
theorem dX4_book_76 : decode cX4_book 76 = .ok (.iinc 4 1, 3) := by decide +kernel
theorem dX4_book_79 : decode cX4_book 79 = .ok (.goto (-31), 3) := by decide +kernel
theorem dX4_book_82 : decode cX4_book 82 = .ok (.aload_n 0, 1) := by decide +kernel
theorem dX4_book_83 : decode cX4_book 83 = .ok (.getfield 16, 3) := by decide +kernel
theorem dX4_book_86 : decode cX4_book 86 = .ok (.aload_n 0, 1) := by decide +kernel
theorem dX4_book_87 : decode cX4_book 87 = .ok (.getfield 7, 3) := by decide +kernel
theorem dX4_book_90 : decode cX4_book 90 = .ok (.invokestatic 129, 3) := by decide +kernel
theorem dX4_book_93 : decode cX4_book 93 = .ok (.aload_n 0, 1) := by decide +kernel
theorem dX4_book_94 : decode cX4_book 94 = .ok (.getfield 35, 3) := by decide +kernel
theorem dX4_book_97 : decode cX4_book 97 = .ok (.iload_n 1, 1) := by decide +kernel
theorem dX4_book_98 : decode cX4_book 98 = .ok (.iaload, 1) := by decide +kernel
theorem dX4_book_99 : decode cX4_book 99 = .ok (.ireturn, 1) := by decide +kernel
theorem dX4_read_0 : decode cX4_read 0 = .ok (.aload_n 0, 1) := by decide +kernel
theorem dX4_read_1 : decode cX4_read 1 = .ok (.iload_n 1, 1) := by decide +kernel
theorem dX4_read_2 : decode cX4_read 2 = .ok (.invokevirtual 268, 3) := by decide +kernel
theorem dX4_read_5 : decode cX4_read 5 = .ok (.istore_n 3, 1) := by decide +kernel
theorem dX4_read_6 : decode cX4_read 6 = .ok (.iload_n 3, 1) := by decide +kernel
theorem dX4_read_7 : decode cX4_read 7 = .ok (.ifCond .ge 15, 3) := by decide +kernel
theorem dX4_read_10 : decode cX4_read 10 = .ok (.aload_n 0, 1) := by decide +kernel
theorem dX4_read_11 : decode cX4_read 11 = .ok (.iload_n 2, 1) := by decide +kernel
theorem dX4_read_12 : decode cX4_read 12 = .ok (.invokevirtual 50, 3) := by decide +kernel
theorem dX4_read_15 : decode cX4_read 15 = .ok (.ifCond .ne 7, 3) := by decide +kernel
theorem dX4_read_18 : decode cX4_read 18 = .ok (.iconst 0, 1) := by decide +kernel
theorem dX4_read_19 : decode cX4_read 19 = .ok (.goto 4, 3) := by decide +kernel
theorem dX4_read_22 : decode cX4_read 22 = .ok (.iload_n 3, 1) := by decide +kernel
theorem dX4_read_23 : decode cX4_read 23 = .ok (.istore_n 3, 1) := by decide +kernel
theorem dX4_read_24 : decode cX4_read 24 = .ok (.iload_n 3, 1) := by decide +kernel
theorem dX4_read_25 : decode cX4_read 25 = .ok (.ifCond .lt 9, 3) := by decide +kernel
theorem dX4_read_28 : decode cX4_read 28 = .ok (.aload_n 0, 1) := by decide +kernel
theorem dX4_read_29 : decode cX4_read 29 = .ok (.iload_n 3, 1) := by decide +kernel
theorem dX4_read_30 : decode cX4_read 30 = .ok (.invokevirtual 92, 3) := by decide +kernel
theorem dX4_read_33 : decode cX4_read 33 = .ok (.ireturn, 1) := by decide +kernel
theorem dX4_read_34 : decode cX4_read 34 = .ok (.aload_n 0, 1) := by decide +kernel
theorem dX4_read_35 : decode cX4_read 35 = .ok (.getfield 7, 3) := by decide +kernel
theorem dX4_read_38 : decode cX4_read 38 = .ok (.aload_n 0, 1) := by decide +kernel
theorem dX4_read_39 : decode cX4_read 39 = .ok (.getfield 16, 3) := by decide +kernel
theorem dX4_read_42 : decode cX4_read 42 = .ok (.invokestatic 129, 3) := by decide +kernel
theorem dX4_read_45 : decode cX4_read 45 = .ok (.iconst 0, 1) := by decide +kernel
theorem dX4_read_46 : decode cX4_read 46 = .ok (.istore 4, 2) := by decide +kernel
theorem dX4_read_48 : decode cX4_read 48 = .ok (.iconst 0, 1) := by decide +kernel
theorem dX4_read_49 : decode cX4_read 49 = .ok (.istore 5, 2) := by decide +kernel
theorem dX4_read_51 : decode cX4_read 51 = .ok (.iload 5, 2) := by decide +kernel
theorem dX4_read_53 : decode cX4_read 53 = .ok (.sipush 600, 3) := by decide +kernel
theorem dX4_read_56 : decode cX4_read 56 = .ok (.if_icmp .ge 118, 3) := by decide +kernel
theorem dX4_read_59 : decode cX4_read 59 = .ok (.aload_n 0, 1) := by decide +kernel
theorem dX4_read_60 : decode cX4_read 60 = .ok (.iload_n 2, 1) := by decide +kernel
theorem dX4_read_61 : decode cX4_read 61 = .ok (.iconst 0, 1) := by decide +kernel
theorem dX4_read_62 : decode cX4_read 62 = .ok (.iload 5, 2) := by decide +kernel
theorem dX4_read_64 : decode cX4_read 64 = .ok (.bipush 100, 2) := by decide +kernel
theorem dX4_read_66 : decode cX4_read 66 = .ok (.idiv, 1) := by decide +kernel
theorem dX4_read_67 : decode cX4_read 67 = .ok (.invokevirtual 73, 3) := by decide +kernel
theorem dX4_read_70 : decode cX4_read 70 = .ok (.aload_n 0, 1) := by decide +kernel
theorem dX4_read_71 : decode cX4_read 71 = .ok (.iload_n 2, 1) := by decide +kernel
theorem dX4_read_72 : decode cX4_read 72 = .ok (.iconst 1, 1) := by decide +kernel
theorem dX4_read_73 : decode cX4_read 73 = .ok (.iload 5, 2) := by decide +kernel
theorem dX4_read_75 : decode cX4_read 75 = .ok (.bipush 100, 2) := by decide +kernel
theorem dX4_read_77 : decode cX4_read 77 = .ok (.irem, 1) := by decide +kernel
theorem dX4_read_78 : decode cX4_read 78 = .ok (.invokevirtual 73, 3) := by decide +kernel
theorem dX4_read_81 : decode cX4_read 81 = .ok (.iconst 1, 1) := by decide +kernel
theorem dX4_read_82 : decode cX4_read 82 = .ok (.istore 6, 2) := by decide +kernel
theorem dX4_read_84 : decode cX4_read 84 = .ok (.iconst 0, 1) := by decide +kernel
theorem dX4_read_85 : decode cX4_read 85 = .ok (.istore 7, 2) := by decide +kernel
theorem dX4_read_87 : decode cX4_read 87 = .ok (.iload 7, 2) := by decide +kernel
theorem dX4_read_89 : decode cX4_read 89 = .ok (.aload_n 0, 1) := by decide +kernel
theorem dX4_read_90 : decode cX4_read 90 = .ok (.getfield 35, 3) := by decide +kernel
theorem dX4_read_93 : decode cX4_read 93 = .ok (.iload_n 1, 1) := by decide +kernel
theorem dX4_read_94 : decode cX4_read 94 = .ok (.iaload, 1) := by decide +kernel
theorem dX4_read_95 : decode cX4_read 95 = .ok (.if_icmp .ge 47, 3) := by decide +kernel
theorem dX4_read_98 : decode cX4_read 98 = .ok (.iload 6, 2) := by decide +kernel
theorem dX4_read_100 : decode cX4_read 100 = .ok (.ifCond .eq 42, 3) := by decide +kernel
theorem dX4_read_103 : decode cX4_read 103 = .ok (.aload_n 0, 1) := by decide +kernel
theorem dX4_read_104 : decode cX4_read 104 = .ok (.getfield 38, 3) := by decide +kernel
theorem dX4_read_107 : decode cX4_read 107 = .ok (.bipush 40, 2) := by decide +kernel
theorem dX4_read_109 : decode cX4_read 109 = .ok (.iload_n 1, 1) := by decide +kernel
theorem dX4_read_110 : decode cX4_read 110 = .ok (.imul, 1) := by decide +kernel
theorem dX4_read_111 : decode cX4_read 111 = .ok (.iload 7, 2) := by decide +kernel
theorem dX4_read_113 : decode cX4_read 113 = .ok (.iadd, 1) := by decide +kernel
theorem dX4_read_114 : decode cX4_read 114 = .ok (.laload, 1) := by decide +kernel
theorem dX4_read_115 : decode cX4_read 115 = .ok (.aload_n 0, 1) := by decide +kernel
theorem dX4_read_116 : decode cX4_read 116 = .ok (.iload_n 2, 1) := by decide +kernel
theorem dX4_read_117 : decode cX4_read 117 = .ok (.invokevirtual 66, 3) := by decide +kernel
theorem dX4_read_120 : decode cX4_read 120 = .ok (.i2l, 1) := by decide +kernel
theorem dX4_read_121 : decode cX4_read 121 = .ok (.lcmp, 1) := by decide +kernel
theorem dX4_read_122 : decode cX4_read 122 = .ok (.ifCond .ne 7, 3) := by decide +kernel
theorem dX4_read_125 : decode cX4_read 125 = .ok (.iconst 1, 1) := by decide +kernel
theorem dX4_read_126 : decode cX4_read 126 = .ok (.goto 4, 3) := by decide +kernel
theorem dX4_read_129 : decode cX4_read 129 = .ok (.iconst 0, 1) := by decide +kernel
theorem dX4_read_130 : decode cX4_read 130 = .ok (.istore 6, 2) := by decide +kernel
theorem dX4_read_132 : decode cX4_read 132 = .ok (.aload_n 0, 1) := by decide +kernel
theorem dX4_read_133 : decode cX4_read 133 = .ok (.invokevirtual 80, 3) := by decide +kernel
theorem dX4_read_136 : decode cX4_read 136 = .ok (.iinc 7 1, 3) := by decide +kernel
theorem dX4_read_139 : decode cX4_read 139 = .ok (.goto (-52), 3) := by decide +kernel
theorem dX4_read_142 : decode cX4_read 142 = .ok (.aload_n 0, 1) := by decide +kernel
theorem dX4_read_143 : decode cX4_read 143 = .ok (.getfield 16, 3) := by decide +kernel
theorem dX4_read_146 : decode cX4_read 146 = .ok (.aload_n 0, 1) := by decide +kernel
theorem dX4_read_147 : decode cX4_read 147 = .ok (.getfield 7, 3) := by decide +kernel
theorem dX4_read_150 : decode cX4_read 150 = .ok (.invokestatic 129, 3) := by decide +kernel
theorem dX4_read_153 : decode cX4_read 153 = .ok (.iload 4, 2) := by decide +kernel
theorem dX4_read_155 : decode cX4_read 155 = .ok (.iload 6, 2) := by decide +kernel
theorem dX4_read_157 : decode cX4_read 157 = .ok (.ifCond .eq 7, 3) := by decide +kernel
theorem dX4_read_160 : decode cX4_read 160 = .ok (.iconst 1, 1) := by decide +kernel
theorem dX4_read_161 : decode cX4_read 161 = .ok (.goto 4, 3) := by decide +kernel
theorem dX4_read_164 : decode cX4_read 164 = .ok (.iconst 0, 1) := by decide +kernel
theorem dX4_read_165 : decode cX4_read 165 = .ok (.iadd, 1) := by decide +kernel
theorem dX4_read_166 : decode cX4_read 166 = .ok (.istore 4, 2) := by decide +kernel
theorem dX4_read_168 : decode cX4_read 168 = .ok (.iinc 5 1, 3) := by decide +kernel
theorem dX4_read_171 : decode cX4_read 171 = .ok (.goto (-120), 3) := by decide +kernel
theorem dX4_read_174 : decode cX4_read 174 = .ok (.iload 4, 2) := by decide +kernel
theorem dX4_read_176 : decode cX4_read 176 = .ok (.ireturn, 1) := by decide +kernel
theorem dX4_image_0 : decode cX4_image 0 = .ok (.aload_n 0, 1) := by decide +kernel
theorem dX4_image_1 : decode cX4_image 1 = .ok (.getfield 7, 3) := by decide +kernel
theorem dX4_image_4 : decode cX4_image 4 = .ok (.aload_n 0, 1) := by decide +kernel
theorem dX4_image_5 : decode cX4_image 5 = .ok (.getfield 19, 3) := by decide +kernel
theorem dX4_image_8 : decode cX4_image 8 = .ok (.invokestatic 129, 3) := by decide +kernel
theorem dX4_image_11 : decode cX4_image 11 = .ok (.aload_n 0, 1) := by decide +kernel
theorem dX4_image_12 : decode cX4_image 12 = .ok (.iconst 1, 1) := by decide +kernel
theorem dX4_image_13 : decode cX4_image 13 = .ok (.putfield 275, 3) := by decide +kernel
theorem dX4_image_16 : decode cX4_image 16 = .ok (.iconst 1, 1) := by decide +kernel
theorem dX4_image_17 : decode cX4_image 17 = .ok (.ireturn, 1) := by decide +kernel
theorem dX4_undo_0 : decode cX4_undo 0 = .ok (.aload_n 0, 1) := by decide +kernel
theorem dX4_undo_1 : decode cX4_undo 1 = .ok (.getfield 275, 3) := by decide +kernel
theorem dX4_undo_4 : decode cX4_undo 4 = .ok (.ifCond .ne 9, 3) := by decide +kernel
theorem dX4_undo_7 : decode cX4_undo 7 = .ok (.aload_n 0, 1) := by decide +kernel
theorem dX4_undo_8 : decode cX4_undo 8 = .ok (.iconst 3, 1) := by decide +kernel
theorem dX4_undo_9 : decode cX4_undo 9 = .ok (.invokevirtual 92, 3) := by decide +kernel
theorem dX4_undo_12 : decode cX4_undo 12 = .ok (.ireturn, 1) := by decide +kernel
theorem dX4_undo_13 : decode cX4_undo 13 = .ok (.aload_n 0, 1) := by decide +kernel
theorem dX4_undo_14 : decode cX4_undo 14 = .ok (.getfield 19, 3) := by decide +kernel
theorem dX4_undo_17 : decode cX4_undo 17 = .ok (.aload_n 0, 1) := by decide +kernel
theorem dX4_undo_18 : decode cX4_undo 18 = .ok (.getfield 7, 3) := by decide +kernel
theorem dX4_undo_21 : decode cX4_undo 21 = .ok (.invokestatic 129, 3) := by decide +kernel
theorem dX4_undo_24 : decode cX4_undo 24 = .ok (.aload_n 0, 1) := by decide +kernel
theorem dX4_undo_25 : decode cX4_undo 25 = .ok (.getfield 7, 3) := by decide +kernel
