theorem dX4_scoresFor_99 : decode cX4_scoresFor 99 = .ok (.iload 6, 2) := by decide +kernel
theorem dX4_scoresFor_101 : decode cX4_scoresFor 101 = .ok (.ireturn, 1) := by decide +kernel
theorem dX4_scoresFor_102 : decode cX4_scoresFor 102 = .ok (.iload_n 3, 1) := by decide +kernel
theorem dX4_scoresFor_103 : decode cX4_scoresFor 103 = .ok (.ifCond .ne 7, 3) := by decide +kernel
theorem dX4_scoresFor_106 : decode cX4_scoresFor 106 = .ok (.iconst 1, 1) := by decide +kernel
theorem dX4_scoresFor_107 : decode cX4_scoresFor 107 = .ok (.goto 5, 3) := by decide +kernel
theorem dX4_scoresFor_110 : decode cX4_scoresFor 110 = .ok (.bipush (-3), 2) := by decide +kernel
theorem dX4_scoresFor_112 : decode cX4_scoresFor 112 = .ok (.ireturn, 1) := by decide +kernel
theorem dX4_scoresFor_113 : decode cX4_scoresFor 113 = .ok (.iload 5, 2) := by decide +kernel
theorem dX4_scoresFor_115 : decode cX4_scoresFor 115 = .ok (.iload_n 2, 1) := by decide +kernel
theorem dX4_scoresFor_116 : decode cX4_scoresFor 116 = .ok (.iconst 4, 1) := by decide +kernel
theorem dX4_scoresFor_117 : decode cX4_scoresFor 117 = .ok (.if_icmp .ne 7, 3) := by decide +kernel
theorem dX4_scoresFor_120 : decode cX4_scoresFor 120 = .ok (.iconst 2, 1) := by decide +kernel
theorem dX4_scoresFor_121 : decode cX4_scoresFor 121 = .ok (.goto 4, 3) := by decide +kernel
theorem dX4_scoresFor_124 : decode cX4_scoresFor 124 = .ok (.iconst 0, 1) := by decide +kernel
theorem dX4_scoresFor_125 : decode cX4_scoresFor 125 = .ok (.isub, 1) := by decide +kernel
theorem dX4_scoresFor_126 : decode cX4_scoresFor 126 = .ok (.ireturn, 1) := by decide +kernel
theorem dX4_scoresFor_127 : decode cX4_scoresFor 127 = .ok (.iload 6, 2) := by decide +kernel
theorem dX4_scoresFor_129 : decode cX4_scoresFor 129 = .ok (.iconst 0, 1) := by decide +kernel
theorem dX4_scoresFor_130 : decode cX4_scoresFor 130 = .ok (.bipush 99, 2) := by decide +kernel
theorem dX4_scoresFor_132 : decode cX4_scoresFor 132 = .ok (.invokestatic 62, 3) := by decide +kernel
theorem dX4_scoresFor_135 : decode cX4_scoresFor 135 = .ok (.ireturn, 1) := by decide +kernel
theorem dX4_scoresFor_136 : decode cX4_scoresFor 136 = .ok (.iload 4, 2) := by decide +kernel
theorem dX4_scoresFor_138 : decode cX4_scoresFor 138 = .ok (.ireturn, 1) := by decide +kernel
set_option maxRecDepth 20000 in
theorem ggX4_stales_X4_its : GoodIn wsX4_stales wsX4_its := goodIn_r _ [5, 6, 7, 8, 9, 10, 11, 12, 13, 14, 15, 16, 17, 18, 19, 20, 21, 22, 23, 24] (by decide +kernel) (by decide +kernel)
set_option maxRecDepth 20000 in
theorem gX4_stales_X4_its : GoodIn wsX4_stales (wsV RX4 54 RX4 yX4_its wsX4_its) := goodIn_app (goodIn_of _ (by decide +kernel)) ggX4_stales_X4_its
theorem dX4_stales_0 : decode cX4_stales 0 = .ok (.aload_n 0, 1) := by decide +kernel
theorem dX4_stales_1 : decode cX4_stales 1 = .ok (.iload_n 1, 1) := by decide +kernel
theorem dX4_stales_2 : decode cX4_stales 2 = .ok (.iconst 0, 1) := by decide +kernel
theorem dX4_stales_3 : decode cX4_stales 3 = .ok (.invokevirtual 54, 3) := by decide +kernel
theorem dX4_stales_6 : decode cX4_stales 6 = .ok (.tableswitch 46 1 5 #[34, 36, 39, 42, 44], 34) := by decide +kernel
theorem dX4_stales_40 : decode cX4_stales 40 = .ok (.iconst 3, 1) := by decide +kernel
theorem dX4_stales_41 : decode cX4_stales 41 = .ok (.ireturn, 1) := by decide +kernel
theorem dX4_stales_42 : decode cX4_stales 42 = .ok (.bipush 8, 2) := by decide +kernel
theorem dX4_stales_44 : decode cX4_stales 44 = .ok (.ireturn, 1) := by decide +kernel
theorem dX4_stales_45 : decode cX4_stales 45 = .ok (.bipush (-5), 2) := by decide +kernel
theorem dX4_stales_47 : decode cX4_stales 47 = .ok (.ireturn, 1) := by decide +kernel
theorem dX4_stales_48 : decode cX4_stales 48 = .ok (.iconst 0, 1) := by decide +kernel
theorem dX4_stales_49 : decode cX4_stales 49 = .ok (.ireturn, 1) := by decide +kernel
theorem dX4_stales_50 : decode cX4_stales 50 = .ok (.iconst 5, 1) := by decide +kernel
theorem dX4_stales_51 : decode cX4_stales 51 = .ok (.ireturn, 1) := by decide +kernel
theorem dX4_stales_52 : decode cX4_stales 52 = .ok (.iconst 4, 1) := by decide +kernel
theorem dX4_stales_53 : decode cX4_stales 53 = .ok (.ireturn, 1) := by decide +kernel
set_option maxRecDepth 20000 in
theorem ggX4_momentGoes_X4_doesNow : GoodIn wsX4_momentGoes wsX4_doesNow := goodIn_r _ [7, 1, 8, 9, 10, 6, 11, 12, 13, 14, 15, 16, 17, 18, 19, 20, 21, 22, 38, 39, 40, 41, 42, 43, 44, 45, 46, 47, 48, 49, 50, 51, 52, 53, 54, 55] (by decide +kernel) (by decide +kernel)
set_option maxRecDepth 20000 in
theorem gX4_momentGoes_X4_doesNow : GoodIn wsX4_momentGoes (wsV RX4 66 RX4 yX4_doesNow wsX4_doesNow) := goodIn_app (goodIn_of _ (by decide +kernel)) ggX4_momentGoes_X4_doesNow
set_option maxRecDepth 20000 in
theorem ggX4_momentGoes_X4_its : GoodIn wsX4_momentGoes wsX4_its := goodIn_r _ [11, 1, 38, 39, 40, 41, 42, 43, 44, 45, 46, 47, 48, 49, 50, 51, 52, 53, 54, 55] (by decide +kernel) (by decide +kernel)
set_option maxRecDepth 20000 in
theorem gX4_momentGoes_X4_its : GoodIn wsX4_momentGoes (wsV RX4 54 RX4 yX4_its wsX4_its) := goodIn_app (goodIn_of _ (by decide +kernel)) ggX4_momentGoes_X4_its
set_option maxRecDepth 20000 in
theorem ggX4_momentGoes_X4_scoresFor : GoodIn wsX4_momentGoes wsX4_scoresFor := goodIn_r _ [26, 8, 9, 10, 6, 11, 1, 27, 28, 29, 38, 39, 40, 41, 42, 43, 44, 45, 46, 47, 48, 49, 50, 51, 52, 53, 54, 55] (by decide +kernel) (by decide +kernel)
set_option maxRecDepth 20000 in
theorem gX4_momentGoes_X4_scoresFor : GoodIn wsX4_momentGoes (wsV RX4 70 RX4 yX4_scoresFor wsX4_scoresFor) := goodIn_app (goodIn_of _ (by decide +kernel)) ggX4_momentGoes_X4_scoresFor
set_option maxRecDepth 20000 in
theorem ggX4_momentGoes_X4_held : GoodIn wsX4_momentGoes wsX4_held := goodIn_r _ [29] (by decide +kernel) (by decide +kernel)
set_option maxRecDepth 20000 in
theorem gX4_momentGoes_X4_held : GoodIn wsX4_momentGoes (va_wsS RX4 62 yX4_held wsX4_held) := goodIn_app (goodIn_of _ (by decide +kernel)) ggX4_momentGoes_X4_held
set_option maxRecDepth 20000 in
theorem ggX4_momentGoes_X4_sets : GoodIn wsX4_momentGoes wsX4_sets := goodIn_r _ [33, 1, 38, 39, 40, 41, 42, 43, 44, 45, 46, 47, 48, 49, 50, 51, 52, 53, 54, 55] (by decide +kernel) (by decide +kernel)
set_option maxRecDepth 20000 in
theorem gX4_momentGoes_X4_sets : GoodIn wsX4_momentGoes (wsV RX4 73 RX4 yX4_sets wsX4_sets) := goodIn_app (goodIn_of _ (by decide +kernel)) ggX4_momentGoes_X4_sets
set_option maxRecDepth 20000 in
theorem ggX4_momentGoes_X4_stales : GoodIn wsX4_momentGoes wsX4_stales := goodIn_r _ [37, 8, 9, 10, 6, 11, 1, 38, 39, 40, 41, 42, 43, 44, 45, 46, 47, 48, 49, 50, 51, 52, 53, 54, 55] (by decide +kernel) (by decide +kernel)
set_option maxRecDepth 20000 in
theorem gX4_momentGoes_X4_stales : GoodIn wsX4_momentGoes (wsV RX4 77 RX4 yX4_stales wsX4_stales) := goodIn_app (goodIn_of _ (by decide +kernel)) ggX4_momentGoes_X4_stales
theorem dX4_momentGoes_0 : decode cX4_momentGoes 0 = .ok (.aload_n 0, 1) := by decide +kernel
theorem dX4_momentGoes_1 : decode cX4_momentGoes 1 = .ok (.getfield 7, 3) := by decide +kernel
theorem dX4_momentGoes_4 : decode cX4_momentGoes 4 = .ok (.iconst 3, 1) := by decide +kernel
theorem dX4_momentGoes_5 : decode cX4_momentGoes 5 = .ok (.aload_n 0, 1) := by decide +kernel
theorem dX4_momentGoes_6 : decode cX4_momentGoes 6 = .ok (.getfield 7, 3) := by decide +kernel
theorem dX4_momentGoes_9 : decode cX4_momentGoes 9 = .ok (.iconst 2, 1) := by decide +kernel
theorem dX4_momentGoes_10 : decode cX4_momentGoes 10 = .ok (.iaload, 1) := by decide +kernel
theorem dX4_momentGoes_11 : decode cX4_momentGoes 11 = .ok (.iadd, 1) := by decide +kernel
theorem dX4_momentGoes_12 : decode cX4_momentGoes 12 = .ok (.iaload, 1) := by decide +kernel
theorem dX4_momentGoes_13 : decode cX4_momentGoes 13 = .ok (.istore_n 1, 1) := by decide +kernel
theorem dX4_momentGoes_14 : decode cX4_momentGoes 14 = .ok (.iconst 0, 1) := by decide +kernel
theorem dX4_momentGoes_15 : decode cX4_momentGoes 15 = .ok (.istore_n 2, 1) := by decide +kernel
theorem dX4_momentGoes_16 : decode cX4_momentGoes 16 = .ok (.iload_n 2, 1) := by decide +kernel
theorem dX4_momentGoes_17 : decode cX4_momentGoes 17 = .ok (.aload_n 0, 1) := by decide +kernel
theorem dX4_momentGoes_18 : decode cX4_momentGoes 18 = .ok (.getfield 7, 3) := by decide +kernel
theorem dX4_momentGoes_21 : decode cX4_momentGoes 21 = .ok (.iconst 0, 1) := by decide +kernel
theorem dX4_momentGoes_22 : decode cX4_momentGoes 22 = .ok (.iaload, 1) := by decide +kernel
theorem dX4_momentGoes_23 : decode cX4_momentGoes 23 = .ok (.if_icmp .ge 20, 3) := by decide +kernel
theorem dX4_momentGoes_26 : decode cX4_momentGoes 26 = .ok (.aload_n 0, 1) := by decide +kernel
theorem dX4_momentGoes_27 : decode cX4_momentGoes 27 = .ok (.getfield 29, 3) := by decide +kernel
theorem dX4_momentGoes_30 : decode cX4_momentGoes 30 = .ok (.iload_n 2, 1) := by decide +kernel
theorem dX4_momentGoes_31 : decode cX4_momentGoes 31 = .ok (.aload_n 0, 1) := by decide +kernel
theorem dX4_momentGoes_32 : decode cX4_momentGoes 32 = .ok (.iload_n 2, 1) := by decide +kernel
theorem dX4_momentGoes_33 : decode cX4_momentGoes 33 = .ok (.invokevirtual 66, 3) := by decide +kernel
theorem dX4_momentGoes_36 : decode cX4_momentGoes 36 = .ok (.iastore, 1) := by decide +kernel
theorem dX4_momentGoes_37 : decode cX4_momentGoes 37 = .ok (.iinc 2 1, 3) := by decide +kernel
theorem dX4_momentGoes_40 : decode cX4_momentGoes 40 = .ok (.goto (-24), 3) := by decide +kernel
theorem dX4_momentGoes_43 : decode cX4_momentGoes 43 = .ok (.iconst 0, 1) := by decide +kernel
theorem dX4_momentGoes_44 : decode cX4_momentGoes 44 = .ok (.istore_n 2, 1) := by decide +kernel
theorem dX4_momentGoes_45 : decode cX4_momentGoes 45 = .ok (.iload_n 2, 1) := by decide +kernel
theorem dX4_momentGoes_46 : decode cX4_momentGoes 46 = .ok (.aload_n 0, 1) := by decide +kernel
theorem dX4_momentGoes_47 : decode cX4_momentGoes 47 = .ok (.getfield 7, 3) := by decide +kernel
theorem dX4_momentGoes_50 : decode cX4_momentGoes 50 = .ok (.iconst 0, 1) := by decide +kernel
theorem dX4_momentGoes_51 : decode cX4_momentGoes 51 = .ok (.iaload, 1) := by decide +kernel
theorem dX4_momentGoes_52 : decode cX4_momentGoes 52 = .ok (.if_icmp .ge 55, 3) := by decide +kernel
theorem dX4_momentGoes_55 : decode cX4_momentGoes 55 = .ok (.aload_n 0, 1) := by decide +kernel
theorem dX4_momentGoes_56 : decode cX4_momentGoes 56 = .ok (.iload_n 2, 1) := by decide +kernel
theorem dX4_momentGoes_57 : decode cX4_momentGoes 57 = .ok (.iconst 2, 1) := by decide +kernel
theorem dX4_momentGoes_58 : decode cX4_momentGoes 58 = .ok (.aload_n 0, 1) := by decide +kernel
theorem dX4_momentGoes_59 : decode cX4_momentGoes 59 = .ok (.iload_n 2, 1) := by decide +kernel
theorem dX4_momentGoes_60 : decode cX4_momentGoes 60 = .ok (.iconst 2, 1) := by decide +kernel
theorem dX4_momentGoes_61 : decode cX4_momentGoes 61 = .ok (.invokevirtual 54, 3) := by decide +kernel
theorem dX4_momentGoes_64 : decode cX4_momentGoes 64 = .ok (.aload_n 0, 1) := by decide +kernel
theorem dX4_momentGoes_65 : decode cX4_momentGoes 65 = .ok (.iload_n 2, 1) := by decide +kernel
theorem dX4_momentGoes_66 : decode cX4_momentGoes 66 = .ok (.aload_n 0, 1) := by decide +kernel
theorem dX4_momentGoes_67 : decode cX4_momentGoes 67 = .ok (.getfield 29, 3) := by decide +kernel
theorem dX4_momentGoes_70 : decode cX4_momentGoes 70 = .ok (.iload_n 2, 1) := by decide +kernel
theorem dX4_momentGoes_71 : decode cX4_momentGoes 71 = .ok (.iaload, 1) := by decide +kernel
theorem dX4_momentGoes_72 : decode cX4_momentGoes 72 = .ok (.iload_n 1, 1) := by decide +kernel
theorem dX4_momentGoes_73 : decode cX4_momentGoes 73 = .ok (.invokevirtual 70, 3) := by decide +kernel
theorem dX4_momentGoes_76 : decode cX4_momentGoes 76 = .ok (.iadd, 1) := by decide +kernel
theorem dX4_momentGoes_77 : decode cX4_momentGoes 77 = .ok (.sipush (-9999), 3) := by decide +kernel
theorem dX4_momentGoes_80 : decode cX4_momentGoes 80 = .ok (.sipush 9999, 3) := by decide +kernel
theorem dX4_momentGoes_83 : decode cX4_momentGoes 83 = .ok (.invokestatic 62, 3) := by decide +kernel
theorem dX4_momentGoes_86 : decode cX4_momentGoes 86 = .ok (.invokevirtual 73, 3) := by decide +kernel
theorem dX4_momentGoes_89 : decode cX4_momentGoes 89 = .ok (.aload_n 0, 1) := by decide +kernel
theorem dX4_momentGoes_90 : decode cX4_momentGoes 90 = .ok (.iload_n 2, 1) := by decide +kernel
theorem dX4_momentGoes_91 : decode cX4_momentGoes 91 = .ok (.iconst 3, 1) := by decide +kernel
theorem dX4_momentGoes_92 : decode cX4_momentGoes 92 = .ok (.aload_n 0, 1) := by decide +kernel
theorem dX4_momentGoes_93 : decode cX4_momentGoes 93 = .ok (.getfield 29, 3) := by decide +kernel
theorem dX4_momentGoes_96 : decode cX4_momentGoes 96 = .ok (.iload_n 2, 1) := by decide +kernel
theorem dX4_momentGoes_97 : decode cX4_momentGoes 97 = .ok (.iaload, 1) := by decide +kernel
theorem dX4_momentGoes_98 : decode cX4_momentGoes 98 = .ok (.invokevirtual 73, 3) := by decide +kernel
theorem dX4_momentGoes_101 : decode cX4_momentGoes 101 = .ok (.iinc 2 1, 3) := by decide +kernel
theorem dX4_momentGoes_104 : decode cX4_momentGoes 104 = .ok (.goto (-59), 3) := by decide +kernel
theorem dX4_momentGoes_107 : decode cX4_momentGoes 107 = .ok (.aload_n 0, 1) := by decide +kernel
theorem dX4_momentGoes_108 : decode cX4_momentGoes 108 = .ok (.getfield 7, 3) := by decide +kernel
theorem dX4_momentGoes_111 : decode cX4_momentGoes 111 = .ok (.iconst 2, 1) := by decide +kernel
theorem dX4_momentGoes_112 : decode cX4_momentGoes 112 = .ok (.aload_n 0, 1) := by decide +kernel
theorem dX4_momentGoes_113 : decode cX4_momentGoes 113 = .ok (.getfield 7, 3) := by decide +kernel
theorem dX4_momentGoes_116 : decode cX4_momentGoes 116 = .ok (.iconst 2, 1) := by decide +kernel
theorem dX4_momentGoes_117 : decode cX4_momentGoes 117 = .ok (.iaload, 1) := by decide +kernel
theorem dX4_momentGoes_118 : decode cX4_momentGoes 118 = .ok (.iconst 1, 1) := by decide +kernel
theorem dX4_momentGoes_119 : decode cX4_momentGoes 119 = .ok (.iadd, 1) := by decide +kernel
theorem dX4_momentGoes_120 : decode cX4_momentGoes 120 = .ok (.bipush 16, 2) := by decide +kernel
theorem dX4_momentGoes_122 : decode cX4_momentGoes 122 = .ok (.irem, 1) := by decide +kernel
theorem dX4_momentGoes_123 : decode cX4_momentGoes 123 = .ok (.iastore, 1) := by decide +kernel
theorem dX4_momentGoes_124 : decode cX4_momentGoes 124 = .ok (.aload_n 0, 1) := by decide +kernel
theorem dX4_momentGoes_125 : decode cX4_momentGoes 125 = .ok (.getfield 7, 3) := by decide +kernel
theorem dX4_momentGoes_128 : decode cX4_momentGoes 128 = .ok (.iconst 2, 1) := by decide +kernel
theorem dX4_momentGoes_129 : decode cX4_momentGoes 129 = .ok (.iaload, 1) := by decide +kernel
theorem dX4_momentGoes_130 : decode cX4_momentGoes 130 = .ok (.ifCond .ne 62, 3) := by decide +kernel
theorem dX4_momentGoes_133 : decode cX4_momentGoes 133 = .ok (.iconst 0, 1) := by decide +kernel
theorem dX4_momentGoes_134 : decode cX4_momentGoes 134 = .ok (.istore_n 2, 1) := by decide +kernel
theorem dX4_momentGoes_135 : decode cX4_momentGoes 135 = .ok (.iload_n 2, 1) := by decide +kernel
theorem dX4_momentGoes_136 : decode cX4_momentGoes 136 = .ok (.aload_n 0, 1) := by decide +kernel
theorem dX4_momentGoes_137 : decode cX4_momentGoes 137 = .ok (.getfield 7, 3) := by decide +kernel
theorem dX4_momentGoes_140 : decode cX4_momentGoes 140 = .ok (.iconst 0, 1) := by decide +kernel
theorem dX4_momentGoes_141 : decode cX4_momentGoes 141 = .ok (.iaload, 1) := by decide +kernel
theorem dX4_momentGoes_142 : decode cX4_momentGoes 142 = .ok (.if_icmp .ge 40, 3) := by decide +kernel
theorem dX4_momentGoes_145 : decode cX4_momentGoes 145 = .ok (.aload_n 0, 1) := by decide +kernel
theorem dX4_momentGoes_146 : decode cX4_momentGoes 146 = .ok (.iload_n 2, 1) := by decide +kernel
theorem dX4_momentGoes_147 : decode cX4_momentGoes 147 = .ok (.iconst 1, 1) := by decide +kernel
theorem dX4_momentGoes_148 : decode cX4_momentGoes 148 = .ok (.aload_n 0, 1) := by decide +kernel
theorem dX4_momentGoes_149 : decode cX4_momentGoes 149 = .ok (.iload_n 2, 1) := by decide +kernel
theorem dX4_momentGoes_150 : decode cX4_momentGoes 150 = .ok (.iconst 1, 1) := by decide +kernel
theorem dX4_momentGoes_151 : decode cX4_momentGoes 151 = .ok (.invokevirtual 54, 3) := by decide +kernel
theorem dX4_momentGoes_154 : decode cX4_momentGoes 154 = .ok (.aload_n 0, 1) := by decide +kernel
theorem dX4_momentGoes_155 : decode cX4_momentGoes 155 = .ok (.iload_n 2, 1) := by decide +kernel
theorem dX4_momentGoes_156 : decode cX4_momentGoes 156 = .ok (.invokevirtual 77, 3) := by decide +kernel
theorem dX4_momentGoes_159 : decode cX4_momentGoes 159 = .ok (.isub, 1) := by decide +kernel
theorem dX4_momentGoes_160 : decode cX4_momentGoes 160 = .ok (.iconst 0, 1) := by decide +kernel
theorem dX4_momentGoes_161 : decode cX4_momentGoes 161 = .ok (.bipush 99, 2) := by decide +kernel
theorem dX4_momentGoes_163 : decode cX4_momentGoes 163 = .ok (.invokestatic 62, 3) := by decide +kernel
theorem dX4_momentGoes_166 : decode cX4_momentGoes 166 = .ok (.invokevirtual 73, 3) := by decide +kernel
theorem dX4_momentGoes_169 : decode cX4_momentGoes 169 = .ok (.aload_n 0, 1) := by decide +kernel
theorem dX4_momentGoes_170 : decode cX4_momentGoes 170 = .ok (.iload_n 2, 1) := by decide +kernel
theorem dX4_momentGoes_171 : decode cX4_momentGoes 171 = .ok (.iconst 3, 1) := by decide +kernel
theorem dX4_momentGoes_172 : decode cX4_momentGoes 172 = .ok (.iconst 0, 1) := by decide +kernel
theorem dX4_momentGoes_173 : decode cX4_momentGoes 173 = .ok (.invokevirtual 73, 3) := by decide +kernel
theorem dX4_momentGoes_176 : decode cX4_momentGoes 176 = .ok (.iinc 2 1, 3) := by decide +kernel
theorem dX4_momentGoes_179 : decode cX4_momentGoes 179 = .ok (.goto (-44), 3) := by decide +kernel
theorem dX4_momentGoes_182 : decode cX4_momentGoes 182 = .ok (.aload_n 0, 1) := by decide +kernel
theorem dX4_momentGoes_183 : decode cX4_momentGoes 183 = .ok (.getfield 7, 3) := by decide +kernel
theorem dX4_momentGoes_186 : decode cX4_momentGoes 186 = .ok (.iconst 1, 1) := by decide +kernel
theorem dX4_momentGoes_187 : decode cX4_momentGoes 187 = .ok (.dup2, 1) := by decide +kernel
theorem dX4_momentGoes_188 : decode cX4_momentGoes 188 = .ok (.iaload, 1) := by decide +kernel
theorem dX4_momentGoes_189 : decode cX4_momentGoes 189 = .ok (.iconst 1, 1) := by decide +kernel
theorem dX4_momentGoes_190 : decode cX4_momentGoes 190 = .ok (.iadd, 1) := by decide +kernel
theorem dX4_momentGoes_191 : decode cX4_momentGoes 191 = .ok (.iastore, 1) := by decide +kernel
theorem dX4_momentGoes_192 : decode cX4_momentGoes 192 = .ok (.return_, 1) := by decide +kernel
set_option maxRecDepth 20000 in
theorem ggX4_momentsGo_X4_momentGoes : GoodIn wsX4_momentsGo wsX4_momentGoes := goodIn_r _ [5, 6, 7, 8, 9, 10, 4, 11, 12, 13, 14, 15, 16, 17, 18, 19, 20, 21, 22, 23, 24, 25, 26, 27, 28, 29, 30, 31, 32, 33, 34, 35, 36, 37, 38, 39, 40, 41, 42, 43, 44, 45, 46, 47, 48, 49, 50, 51, 52, 53, 54, 55, 56, 57, 58, 59] (by decide +kernel) (by decide +kernel)
set_option maxRecDepth 20000 in
theorem gX4_momentsGo_X4_momentGoes : GoodIn wsX4_momentsGo (wsV RX4 80 RX4 yX4_momentGoes wsX4_momentGoes) := goodIn_app (goodIn_of _ (by decide +kernel)) ggX4_momentsGo_X4_momentGoes
theorem dX4_momentsGo_0 : decode cX4_momentsGo 0 = .ok (.iconst 0, 1) := by decide +kernel
theorem dX4_momentsGo_1 : decode cX4_momentsGo 1 = .ok (.istore_n 2, 1) := by decide +kernel
theorem dX4_momentsGo_2 : decode cX4_momentsGo 2 = .ok (.iload_n 2, 1) := by decide +kernel
theorem dX4_momentsGo_3 : decode cX4_momentsGo 3 = .ok (.iload_n 1, 1) := by decide +kernel
theorem dX4_momentsGo_4 : decode cX4_momentsGo 4 = .ok (.if_icmp .ge 13, 3) := by decide +kernel
theorem dX4_momentsGo_7 : decode cX4_momentsGo 7 = .ok (.aload_n 0, 1) := by decide +kernel
theorem dX4_momentsGo_8 : decode cX4_momentsGo 8 = .ok (.invokevirtual 80, 3) := by decide +kernel
theorem dX4_momentsGo_11 : decode cX4_momentsGo 11 = .ok (.iinc 2 1, 3) := by decide +kernel
theorem dX4_momentsGo_14 : decode cX4_momentsGo 14 = .ok (.goto (-12), 3) := by decide +kernel
theorem dX4_momentsGo_17 : decode cX4_momentsGo 17 = .ok (.return_, 1) := by decide +kernel
set_option maxRecDepth 20000 in
theorem ggX4_sumOf_X4_its : GoodIn wsX4_sumOf wsX4_its := goodIn_r _ [6, 1, 7, 8, 9, 10, 11, 12, 13, 14, 15, 16, 17, 18, 19, 20, 21, 22, 23, 24] (by decide +kernel) (by decide +kernel)
set_option maxRecDepth 20000 in
theorem gX4_sumOf_X4_its : GoodIn wsX4_sumOf (wsV RX4 54 RX4 yX4_its wsX4_its) := goodIn_app (goodIn_of _ (by decide +kernel)) ggX4_sumOf_X4_its
theorem dX4_sumOf_0 : decode cX4_sumOf 0 = .ok (.iconst 0, 1) := by decide +kernel
theorem dX4_sumOf_1 : decode cX4_sumOf 1 = .ok (.istore_n 2, 1) := by decide +kernel
theorem dX4_sumOf_2 : decode cX4_sumOf 2 = .ok (.iconst 0, 1) := by decide +kernel
theorem dX4_sumOf_3 : decode cX4_sumOf 3 = .ok (.istore_n 3, 1) := by decide +kernel
theorem dX4_sumOf_4 : decode cX4_sumOf 4 = .ok (.iload_n 3, 1) := by decide +kernel
theorem dX4_sumOf_5 : decode cX4_sumOf 5 = .ok (.aload_n 0, 1) := by decide +kernel
theorem dX4_sumOf_6 : decode cX4_sumOf 6 = .ok (.getfield 7, 3) := by decide +kernel
theorem dX4_sumOf_9 : decode cX4_sumOf 9 = .ok (.iconst 0, 1) := by decide +kernel
theorem dX4_sumOf_10 : decode cX4_sumOf 10 = .ok (.iaload, 1) := by decide +kernel
theorem dX4_sumOf_11 : decode cX4_sumOf 11 = .ok (.if_icmp .ge 18, 3) := by decide +kernel
theorem dX4_sumOf_14 : decode cX4_sumOf 14 = .ok (.iload_n 2, 1) := by decide +kernel
theorem dX4_sumOf_15 : decode cX4_sumOf 15 = .ok (.aload_n 0, 1) := by decide +kernel
theorem dX4_sumOf_16 : decode cX4_sumOf 16 = .ok (.iload_n 3, 1) := by decide +kernel
theorem dX4_sumOf_17 : decode cX4_sumOf 17 = .ok (.iload_n 1, 1) := by decide +kernel
theorem dX4_sumOf_18 : decode cX4_sumOf 18 = .ok (.invokevirtual 54, 3) := by decide +kernel
theorem dX4_sumOf_21 : decode cX4_sumOf 21 = .ok (.iadd, 1) := by decide +kernel
theorem dX4_sumOf_22 : decode cX4_sumOf 22 = .ok (.istore_n 2, 1) := by decide +kernel
theorem dX4_sumOf_23 : decode cX4_sumOf 23 = .ok (.iinc 3 1, 3) := by decide +kernel
theorem dX4_sumOf_26 : decode cX4_sumOf 26 = .ok (.goto (-22), 3) := by decide +kernel
theorem dX4_sumOf_29 : decode cX4_sumOf 29 = .ok (.iload_n 2, 1) := by decide +kernel
theorem dX4_sumOf_30 : decode cX4_sumOf 30 = .ok (.ireturn, 1) := by decide +kernel
set_option maxRecDepth 20000 in
theorem ggX4_isMoment_X4_in : GoodIn wsX4_isMoment wsX4_in := goodIn_r _ [5] (by decide +kernel) (by decide +kernel)
set_option maxRecDepth 20000 in
theorem gX4_isMoment_X4_in : GoodIn wsX4_isMoment (va_wsS RX4 46 yX4_in wsX4_in) := goodIn_app (goodIn_of _ (by decide +kernel)) ggX4_isMoment_X4_in
theorem dX4_isMoment_0 : decode cX4_isMoment 0 = .ok (.iload_n 0, 1) := by decide +kernel
theorem dX4_isMoment_1 : decode cX4_isMoment 1 = .ok (.i2l, 1) := by decide +kernel
theorem dX4_isMoment_2 : decode cX4_isMoment 2 = .ok (.lconst 0, 1) := by decide +kernel
theorem dX4_isMoment_3 : decode cX4_isMoment 3 = .ok (.ldc2_w 83, 3) := by decide +kernel
theorem dX4_isMoment_6 : decode cX4_isMoment 6 = .ok (.invokestatic 46, 3) := by decide +kernel
theorem dX4_isMoment_9 : decode cX4_isMoment 9 = .ok (.ireturn, 1) := by decide +kernel
set_option maxRecDepth 20000 in
theorem ggX4_isDone_X4_in : GoodIn wsX4_isDone wsX4_in := goodIn_r _ [5] (by decide +kernel) (by decide +kernel)
set_option maxRecDepth 20000 in
theorem gX4_isDone_X4_in : GoodIn wsX4_isDone (va_wsS RX4 46 yX4_in wsX4_in) := goodIn_app (goodIn_of _ (by decide +kernel)) ggX4_isDone_X4_in
theorem dX4_isDone_0 : decode cX4_isDone 0 = .ok (.iload_n 0, 1) := by decide +kernel
theorem dX4_isDone_1 : decode cX4_isDone 1 = .ok (.i2l, 1) := by decide +kernel
theorem dX4_isDone_2 : decode cX4_isDone 2 = .ok (.lconst 0, 1) := by decide +kernel
theorem dX4_isDone_3 : decode cX4_isDone 3 = .ok (.ldc2_w 85, 3) := by decide +kernel
theorem dX4_isDone_6 : decode cX4_isDone 6 = .ok (.invokestatic 46, 3) := by decide +kernel
theorem dX4_isDone_9 : decode cX4_isDone 9 = .ok (.ireturn, 1) := by decide +kernel
set_option maxRecDepth 20000 in
theorem ggX4_play_X4_isMoment : GoodIn wsX4_play wsX4_isMoment := goodIn_r _ [6, 7, 8, 9, 5, 10] (by decide +kernel) (by decide +kernel)
set_option maxRecDepth 20000 in
theorem gX4_play_X4_isMoment : GoodIn wsX4_play (va_wsS RX4 87 yX4_isMoment wsX4_isMoment) := goodIn_app (goodIn_of _ (by decide +kernel)) ggX4_play_X4_isMoment
set_option maxRecDepth 20000 in
theorem ggX4_play_X4_in : GoodIn wsX4_play wsX4_in := goodIn_r _ [10] (by decide +kernel) (by decide +kernel)
set_option maxRecDepth 20000 in
theorem gX4_play_X4_in : GoodIn wsX4_play (va_wsS RX4 46 yX4_in wsX4_in) := goodIn_app (goodIn_of _ (by decide +kernel)) ggX4_play_X4_in
set_option maxRecDepth 20000 in
theorem ggX4_play_X4_finds : GoodIn wsX4_play wsX4_finds := goodIn_r _ [14, 15, 16, 22, 23, 24, 25, 26, 27, 28, 29, 30, 31, 32, 33, 34, 35, 36, 37, 38, 39] (by decide +kernel) (by decide +kernel)
set_option maxRecDepth 20000 in
theorem gX4_play_X4_finds : GoodIn wsX4_play (wsV RX4 92 RX4 yX4_finds wsX4_finds) := goodIn_app (goodIn_of _ (by decide +kernel)) ggX4_play_X4_finds
set_option maxRecDepth 20000 in
theorem ggX4_play_X4_becomes : GoodIn wsX4_play wsX4_becomes := goodIn_r _ [20, 21, 22, 23, 24, 25, 26, 27, 28, 29, 30, 31, 32, 33, 34, 35, 36, 37, 38, 39] (by decide +kernel) (by decide +kernel)
set_option maxRecDepth 20000 in
theorem gX4_play_X4_becomes : GoodIn wsX4_play (wsV RX4 95 RX4 yX4_becomes wsX4_becomes) := goodIn_app (goodIn_of _ (by decide +kernel)) ggX4_play_X4_becomes
theorem dX4_play_0 : decode cX4_play 0 = .ok (.iload_n 1, 1) := by decide +kernel
theorem dX4_play_1 : decode cX4_play 1 = .ok (.invokestatic 87, 3) := by decide +kernel
theorem dX4_play_4 : decode cX4_play 4 = .ok (.ifCond .eq 35, 3) := by decide +kernel
theorem dX4_play_7 : decode cX4_play 7 = .ok (.iload_n 2, 1) := by decide +kernel
theorem dX4_play_8 : decode cX4_play 8 = .ok (.i2l, 1) := by decide +kernel
theorem dX4_play_9 : decode cX4_play 9 = .ok (.lconst 0, 1) := by decide +kernel
theorem dX4_play_10 : decode cX4_play 10 = .ok (.lconst 1, 1) := by decide +kernel
theorem dX4_play_11 : decode cX4_play 11 = .ok (.invokestatic 46, 3) := by decide +kernel
theorem dX4_play_14 : decode cX4_play 14 = .ok (.ifCond .eq 25, 3) := by decide +kernel
theorem dX4_play_17 : decode cX4_play 17 = .ok (.iload_n 3, 1) := by decide +kernel
theorem dX4_play_18 : decode cX4_play 18 = .ok (.i2l, 1) := by decide +kernel
theorem dX4_play_19 : decode cX4_play 19 = .ok (.lconst 0, 1) := by decide +kernel
theorem dX4_play_20 : decode cX4_play 20 = .ok (.iload_n 2, 1) := by decide +kernel
theorem dX4_play_21 : decode cX4_play 21 = .ok (.ifCond .ne 9, 3) := by decide +kernel
theorem dX4_play_24 : decode cX4_play 24 = .ok (.ldc2_w 85, 3) := by decide +kernel
theorem dX4_play_27 : decode cX4_play 27 = .ok (.goto 6, 3) := by decide +kernel
theorem dX4_play_30 : decode cX4_play 30 = .ok (.ldc2_w 90, 3) := by decide +kernel
theorem dX4_play_33 : decode cX4_play 33 = .ok (.invokestatic 46, 3) := by decide +kernel
theorem dX4_play_36 : decode cX4_play 36 = .ok (.ifCond .ne 9, 3) := by decide +kernel
theorem dX4_play_39 : decode cX4_play 39 = .ok (.aload_n 0, 1) := by decide +kernel
theorem dX4_play_40 : decode cX4_play 40 = .ok (.iconst 0, 1) := by decide +kernel
theorem dX4_play_41 : decode cX4_play 41 = .ok (.invokevirtual 92, 3) := by decide +kernel
theorem dX4_play_44 : decode cX4_play 44 = .ok (.ireturn, 1) := by decide +kernel
theorem dX4_play_45 : decode cX4_play 45 = .ok (.aload_n 0, 1) := by decide +kernel
theorem dX4_play_46 : decode cX4_play 46 = .ok (.iload_n 2, 1) := by decide +kernel
theorem dX4_play_47 : decode cX4_play 47 = .ok (.ifCond .ne 7, 3) := by decide +kernel
theorem dX4_play_50 : decode cX4_play 50 = .ok (.iconst 3, 1) := by decide +kernel
theorem dX4_play_51 : decode cX4_play 51 = .ok (.goto 5, 3) := by decide +kernel
theorem dX4_play_54 : decode cX4_play 54 = .ok (.bipush 19, 2) := by decide +kernel
theorem dX4_play_56 : decode cX4_play 56 = .ok (.iload_n 1, 1) := by decide +kernel
theorem dX4_play_57 : decode cX4_play 57 = .ok (.iadd, 1) := by decide +kernel
theorem dX4_play_58 : decode cX4_play 58 = .ok (.iload_n 3, 1) := by decide +kernel
theorem dX4_play_59 : decode cX4_play 59 = .ok (.invokevirtual 95, 3) := by decide +kernel
theorem dX4_play_62 : decode cX4_play 62 = .ok (.ireturn, 1) := by decide +kernel
set_option maxRecDepth 20000 in
theorem ggX4_doers_X4_doesNow : GoodIn wsX4_doers wsX4_doesNow := goodIn_r _ [6, 1, 7, 8, 9, 5, 10, 11, 12, 13, 14, 15, 16, 17, 18, 19, 20, 21, 22, 23, 24, 25, 26, 27, 28, 29, 30, 31, 32, 33, 34, 35, 36, 37, 38, 39] (by decide +kernel) (by decide +kernel)
set_option maxRecDepth 20000 in
theorem gX4_doers_X4_doesNow : GoodIn wsX4_doers (wsV RX4 66 RX4 yX4_doesNow wsX4_doesNow) := goodIn_app (goodIn_of _ (by decide +kernel)) ggX4_doers_X4_doesNow
theorem dX4_doers_0 : decode cX4_doers 0 = .ok (.iconst 0, 1) := by decide +kernel
theorem dX4_doers_1 : decode cX4_doers 1 = .ok (.istore_n 3, 1) := by decide +kernel
theorem dX4_doers_2 : decode cX4_doers 2 = .ok (.iconst 0, 1) := by decide +kernel
theorem dX4_doers_3 : decode cX4_doers 3 = .ok (.istore 4, 2) := by decide +kernel
theorem dX4_doers_5 : decode cX4_doers 5 = .ok (.iconst 0, 1) := by decide +kernel
theorem dX4_doers_6 : decode cX4_doers 6 = .ok (.istore 5, 2) := by decide +kernel
theorem dX4_doers_8 : decode cX4_doers 8 = .ok (.iload 5, 2) := by decide +kernel
theorem dX4_doers_10 : decode cX4_doers 10 = .ok (.aload_n 0, 1) := by decide +kernel
theorem dX4_doers_11 : decode cX4_doers 11 = .ok (.getfield 7, 3) := by decide +kernel
theorem dX4_doers_14 : decode cX4_doers 14 = .ok (.iconst 0, 1) := by decide +kernel
theorem dX4_doers_15 : decode cX4_doers 15 = .ok (.iaload, 1) := by decide +kernel
theorem dX4_doers_16 : decode cX4_doers 16 = .ok (.if_icmp .ge 57, 3) := by decide +kernel
theorem dX4_doers_19 : decode cX4_doers 19 = .ok (.aload_n 0, 1) := by decide +kernel
theorem dX4_doers_20 : decode cX4_doers 20 = .ok (.iload 5, 2) := by decide +kernel
theorem dX4_doers_22 : decode cX4_doers 22 = .ok (.invokevirtual 66, 3) := by decide +kernel
theorem dX4_doers_25 : decode cX4_doers 25 = .ok (.iload_n 1, 1) := by decide +kernel
theorem dX4_doers_26 : decode cX4_doers 26 = .ok (.if_icmp .ne 7, 3) := by decide +kernel
theorem dX4_doers_29 : decode cX4_doers 29 = .ok (.iconst 1, 1) := by decide +kernel
theorem dX4_doers_30 : decode cX4_doers 30 = .ok (.goto 4, 3) := by decide +kernel
theorem dX4_doers_33 : decode cX4_doers 33 = .ok (.iconst 0, 1) := by decide +kernel
theorem dX4_doers_34 : decode cX4_doers 34 = .ok (.istore 6, 2) := by decide +kernel
theorem dX4_doers_36 : decode cX4_doers 36 = .ok (.iload_n 3, 1) := by decide +kernel
theorem dX4_doers_37 : decode cX4_doers 37 = .ok (.iload 6, 2) := by decide +kernel
theorem dX4_doers_39 : decode cX4_doers 39 = .ok (.ifCond .eq 10, 3) := by decide +kernel
theorem dX4_doers_42 : decode cX4_doers 42 = .ok (.iconst 1, 1) := by decide +kernel
theorem dX4_doers_43 : decode cX4_doers 43 = .ok (.iload 5, 2) := by decide +kernel
theorem dX4_doers_45 : decode cX4_doers 45 = .ok (.ishl, 1) := by decide +kernel
theorem dX4_doers_46 : decode cX4_doers 46 = .ok (.goto 4, 3) := by decide +kernel
theorem dX4_doers_49 : decode cX4_doers 49 = .ok (.iconst 0, 1) := by decide +kernel
theorem dX4_doers_50 : decode cX4_doers 50 = .ok (.ior, 1) := by decide +kernel
theorem dX4_doers_51 : decode cX4_doers 51 = .ok (.istore_n 3, 1) := by decide +kernel
theorem dX4_doers_52 : decode cX4_doers 52 = .ok (.iload 4, 2) := by decide +kernel
theorem dX4_doers_54 : decode cX4_doers 54 = .ok (.iload 6, 2) := by decide +kernel
theorem dX4_doers_56 : decode cX4_doers 56 = .ok (.ifCond .eq 7, 3) := by decide +kernel
theorem dX4_doers_59 : decode cX4_doers 59 = .ok (.iconst 1, 1) := by decide +kernel
theorem dX4_doers_60 : decode cX4_doers 60 = .ok (.goto 4, 3) := by decide +kernel
theorem dX4_doers_63 : decode cX4_doers 63 = .ok (.iconst 0, 1) := by decide +kernel
theorem dX4_doers_64 : decode cX4_doers 64 = .ok (.iadd, 1) := by decide +kernel
theorem dX4_doers_65 : decode cX4_doers 65 = .ok (.istore 4, 2) := by decide +kernel
theorem dX4_doers_67 : decode cX4_doers 67 = .ok (.iinc 5 1, 3) := by decide +kernel
theorem dX4_doers_70 : decode cX4_doers 70 = .ok (.goto (-62), 3) := by decide +kernel
theorem dX4_doers_73 : decode cX4_doers 73 = .ok (.iload_n 2, 1) := by decide +kernel
theorem dX4_doers_74 : decode cX4_doers 74 = .ok (.ifCond .eq 7, 3) := by decide +kernel
theorem dX4_doers_77 : decode cX4_doers 77 = .ok (.iload_n 3, 1) := by decide +kernel
theorem dX4_doers_78 : decode cX4_doers 78 = .ok (.goto 5, 3) := by decide +kernel
theorem dX4_doers_81 : decode cX4_doers 81 = .ok (.iload 4, 2) := by decide +kernel
theorem dX4_doers_83 : decode cX4_doers 83 = .ok (.ireturn, 1) := by decide +kernel
set_option maxRecDepth 20000 in
theorem ggX4_now_X4_sumOf : GoodIn wsX4_now wsX4_sumOf := goodIn_r _ [6, 1, 7, 8, 9, 5, 10, 36, 37, 38, 39, 40, 41, 42, 43, 44, 45, 46, 47, 48, 49, 50, 51, 52, 53] (by decide +kernel) (by decide +kernel)
set_option maxRecDepth 20000 in
theorem gX4_now_X4_sumOf : GoodIn wsX4_now (wsV RX4 98 RX4 yX4_sumOf wsX4_sumOf) := goodIn_app (goodIn_of _ (by decide +kernel)) ggX4_now_X4_sumOf
set_option maxRecDepth 20000 in
theorem ggX4_now_X4_doers : GoodIn wsX4_now wsX4_doers := goodIn_r _ [14, 1, 15, 16, 17, 5, 18, 7, 8, 9, 10, 19, 20, 21, 22, 23, 24, 25, 26, 27, 28, 29, 36, 37, 38, 39, 40, 41, 42, 43, 44, 45, 46, 47, 48, 49, 50, 51, 52, 53] (by decide +kernel) (by decide +kernel)
set_option maxRecDepth 20000 in
theorem gX4_now_X4_doers : GoodIn wsX4_now (wsV RX4 101 RX4 yX4_doers wsX4_doers) := goodIn_app (goodIn_of _ (by decide +kernel)) ggX4_now_X4_doers
set_option maxRecDepth 20000 in
theorem ggX4_now_X4_finds : GoodIn wsX4_now wsX4_finds := goodIn_r _ [33, 34, 35, 36, 37, 38, 39, 40, 41, 42, 43, 44, 45, 46, 47, 48, 49, 50, 51, 52, 53] (by decide +kernel) (by decide +kernel)
set_option maxRecDepth 20000 in
theorem gX4_now_X4_finds : GoodIn wsX4_now (wsV RX4 92 RX4 yX4_finds wsX4_finds) := goodIn_app (goodIn_of _ (by decide +kernel)) ggX4_now_X4_finds
theorem dX4_now_0 : decode cX4_now 0 = .ok (.iload_n 1, 1) := by decide +kernel
theorem dX4_now_1 : decode cX4_now 1 = .ok (.tableswitch 121 0 6 #[43, 50, 57, 71, 86, 96, 115], 43) := by decide +kernel
theorem dX4_now_44 : decode cX4_now 44 = .ok (.aload_n 0, 1) := by decide +kernel
theorem dX4_now_45 : decode cX4_now 45 = .ok (.getfield 7, 3) := by decide +kernel
theorem dX4_now_48 : decode cX4_now 48 = .ok (.iconst 1, 1) := by decide +kernel
theorem dX4_now_49 : decode cX4_now 49 = .ok (.iaload, 1) := by decide +kernel
theorem dX4_now_50 : decode cX4_now 50 = .ok (.ireturn, 1) := by decide +kernel
theorem dX4_now_51 : decode cX4_now 51 = .ok (.aload_n 0, 1) := by decide +kernel
theorem dX4_now_52 : decode cX4_now 52 = .ok (.getfield 7, 3) := by decide +kernel
theorem dX4_now_55 : decode cX4_now 55 = .ok (.iconst 2, 1) := by decide +kernel
theorem dX4_now_56 : decode cX4_now 56 = .ok (.iaload, 1) := by decide +kernel
theorem dX4_now_57 : decode cX4_now 57 = .ok (.ireturn, 1) := by decide +kernel
theorem dX4_now_58 : decode cX4_now 58 = .ok (.aload_n 0, 1) := by decide +kernel
theorem dX4_now_59 : decode cX4_now 59 = .ok (.getfield 7, 3) := by decide +kernel
theorem dX4_now_62 : decode cX4_now 62 = .ok (.iconst 3, 1) := by decide +kernel
theorem dX4_now_63 : decode cX4_now 63 = .ok (.aload_n 0, 1) := by decide +kernel
theorem dX4_now_64 : decode cX4_now 64 = .ok (.getfield 7, 3) := by decide +kernel
theorem dX4_now_67 : decode cX4_now 67 = .ok (.iconst 2, 1) := by decide +kernel
theorem dX4_now_68 : decode cX4_now 68 = .ok (.iaload, 1) := by decide +kernel
theorem dX4_now_69 : decode cX4_now 69 = .ok (.iadd, 1) := by decide +kernel
theorem dX4_now_70 : decode cX4_now 70 = .ok (.iaload, 1) := by decide +kernel
theorem dX4_now_71 : decode cX4_now 71 = .ok (.ireturn, 1) := by decide +kernel
theorem dX4_now_72 : decode cX4_now 72 = .ok (.aload_n 0, 1) := by decide +kernel
theorem dX4_now_73 : decode cX4_now 73 = .ok (.getfield 7, 3) := by decide +kernel
theorem dX4_now_76 : decode cX4_now 76 = .ok (.bipush 19, 2) := by decide +kernel
theorem dX4_now_78 : decode cX4_now 78 = .ok (.aload_n 0, 1) := by decide +kernel
theorem dX4_now_79 : decode cX4_now 79 = .ok (.getfield 7, 3) := by decide +kernel
theorem dX4_now_82 : decode cX4_now 82 = .ok (.iconst 2, 1) := by decide +kernel
theorem dX4_now_83 : decode cX4_now 83 = .ok (.iaload, 1) := by decide +kernel
theorem dX4_now_84 : decode cX4_now 84 = .ok (.iadd, 1) := by decide +kernel
theorem dX4_now_85 : decode cX4_now 85 = .ok (.iaload, 1) := by decide +kernel
theorem dX4_now_86 : decode cX4_now 86 = .ok (.ireturn, 1) := by decide +kernel
theorem dX4_now_87 : decode cX4_now 87 = .ok (.sipush 10000, 3) := by decide +kernel
theorem dX4_now_90 : decode cX4_now 90 = .ok (.aload_n 0, 1) := by decide +kernel
theorem dX4_now_91 : decode cX4_now 91 = .ok (.iconst 2, 1) := by decide +kernel
theorem dX4_now_92 : decode cX4_now 92 = .ok (.invokevirtual 98, 3) := by decide +kernel
theorem dX4_now_95 : decode cX4_now 95 = .ok (.iadd, 1) := by decide +kernel
theorem dX4_now_96 : decode cX4_now 96 = .ok (.ireturn, 1) := by decide +kernel
theorem dX4_now_97 : decode cX4_now 97 = .ok (.aload_n 0, 1) := by decide +kernel
theorem dX4_now_98 : decode cX4_now 98 = .ok (.aload_n 0, 1) := by decide +kernel
theorem dX4_now_99 : decode cX4_now 99 = .ok (.getfield 7, 3) := by decide +kernel
theorem dX4_now_102 : decode cX4_now 102 = .ok (.iconst 3, 1) := by decide +kernel
theorem dX4_now_103 : decode cX4_now 103 = .ok (.aload_n 0, 1) := by decide +kernel
theorem dX4_now_104 : decode cX4_now 104 = .ok (.getfield 7, 3) := by decide +kernel
theorem dX4_now_107 : decode cX4_now 107 = .ok (.iconst 2, 1) := by decide +kernel
theorem dX4_now_108 : decode cX4_now 108 = .ok (.iaload, 1) := by decide +kernel
theorem dX4_now_109 : decode cX4_now 109 = .ok (.iadd, 1) := by decide +kernel
theorem dX4_now_110 : decode cX4_now 110 = .ok (.iaload, 1) := by decide +kernel
theorem dX4_now_111 : decode cX4_now 111 = .ok (.iconst 1, 1) := by decide +kernel
theorem dX4_now_112 : decode cX4_now 112 = .ok (.invokevirtual 101, 3) := by decide +kernel
theorem dX4_now_115 : decode cX4_now 115 = .ok (.ireturn, 1) := by decide +kernel
theorem dX4_now_116 : decode cX4_now 116 = .ok (.aload_n 0, 1) := by decide +kernel
theorem dX4_now_117 : decode cX4_now 117 = .ok (.iconst 1, 1) := by decide +kernel
theorem dX4_now_118 : decode cX4_now 118 = .ok (.invokevirtual 98, 3) := by decide +kernel
theorem dX4_now_121 : decode cX4_now 121 = .ok (.ireturn, 1) := by decide +kernel
theorem dX4_now_122 : decode cX4_now 122 = .ok (.aload_n 0, 1) := by decide +kernel
theorem dX4_now_123 : decode cX4_now 123 = .ok (.iconst 0, 1) := by decide +kernel
theorem dX4_now_124 : decode cX4_now 124 = .ok (.invokevirtual 92, 3) := by decide +kernel
theorem dX4_now_127 : decode cX4_now 127 = .ok (.ireturn, 1) := by decide +kernel
set_option maxRecDepth 20000 in
theorem ggX4_comesIn_X4_sets : GoodIn wsX4_comesIn wsX4_sets := goodIn_r _ [6, 1, 7, 8, 9, 10, 11, 12, 13, 14, 15, 16, 17, 18, 19, 20, 21, 22, 23, 24] (by decide +kernel) (by decide +kernel)
set_option maxRecDepth 20000 in
theorem gX4_comesIn_X4_sets : GoodIn wsX4_comesIn (wsV RX4 73 RX4 yX4_sets wsX4_sets) := goodIn_app (goodIn_of _ (by decide +kernel)) ggX4_comesIn_X4_sets
theorem dX4_comesIn_0 : decode cX4_comesIn 0 = .ok (.aload_n 0, 1) := by decide +kernel
theorem dX4_comesIn_1 : decode cX4_comesIn 1 = .ok (.getfield 7, 3) := by decide +kernel
theorem dX4_comesIn_4 : decode cX4_comesIn 4 = .ok (.iconst 0, 1) := by decide +kernel
theorem dX4_comesIn_5 : decode cX4_comesIn 5 = .ok (.iaload, 1) := by decide +kernel
theorem dX4_comesIn_6 : decode cX4_comesIn 6 = .ok (.istore_n 2, 1) := by decide +kernel
theorem dX4_comesIn_7 : decode cX4_comesIn 7 = .ok (.aload_n 0, 1) := by decide +kernel
theorem dX4_comesIn_8 : decode cX4_comesIn 8 = .ok (.iload_n 2, 1) := by decide +kernel
theorem dX4_comesIn_9 : decode cX4_comesIn 9 = .ok (.iconst 0, 1) := by decide +kernel
theorem dX4_comesIn_10 : decode cX4_comesIn 10 = .ok (.iload_n 1, 1) := by decide +kernel
theorem dX4_comesIn_11 : decode cX4_comesIn 11 = .ok (.invokevirtual 73, 3) := by decide +kernel
theorem dX4_comesIn_14 : decode cX4_comesIn 14 = .ok (.aload_n 0, 1) := by decide +kernel
theorem dX4_comesIn_15 : decode cX4_comesIn 15 = .ok (.iload_n 2, 1) := by decide +kernel
theorem dX4_comesIn_16 : decode cX4_comesIn 16 = .ok (.iconst 1, 1) := by decide +kernel
theorem dX4_comesIn_17 : decode cX4_comesIn 17 = .ok (.bipush 60, 2) := by decide +kernel
theorem dX4_comesIn_19 : decode cX4_comesIn 19 = .ok (.invokevirtual 73, 3) := by decide +kernel
theorem dX4_comesIn_22 : decode cX4_comesIn 22 = .ok (.aload_n 0, 1) := by decide +kernel
theorem dX4_comesIn_23 : decode cX4_comesIn 23 = .ok (.iload_n 2, 1) := by decide +kernel
theorem dX4_comesIn_24 : decode cX4_comesIn 24 = .ok (.iconst 2, 1) := by decide +kernel
theorem dX4_comesIn_25 : decode cX4_comesIn 25 = .ok (.iconst 0, 1) := by decide +kernel
theorem dX4_comesIn_26 : decode cX4_comesIn 26 = .ok (.invokevirtual 73, 3) := by decide +kernel
theorem dX4_comesIn_29 : decode cX4_comesIn 29 = .ok (.aload_n 0, 1) := by decide +kernel
theorem dX4_comesIn_30 : decode cX4_comesIn 30 = .ok (.iload_n 2, 1) := by decide +kernel
theorem dX4_comesIn_31 : decode cX4_comesIn 31 = .ok (.iconst 3, 1) := by decide +kernel
theorem dX4_comesIn_32 : decode cX4_comesIn 32 = .ok (.iconst 0, 1) := by decide +kernel
theorem dX4_comesIn_33 : decode cX4_comesIn 33 = .ok (.invokevirtual 73, 3) := by decide +kernel
theorem dX4_comesIn_36 : decode cX4_comesIn 36 = .ok (.aload_n 0, 1) := by decide +kernel
theorem dX4_comesIn_37 : decode cX4_comesIn 37 = .ok (.getfield 7, 3) := by decide +kernel
theorem dX4_comesIn_40 : decode cX4_comesIn 40 = .ok (.iconst 0, 1) := by decide +kernel
theorem dX4_comesIn_41 : decode cX4_comesIn 41 = .ok (.dup2, 1) := by decide +kernel
theorem dX4_comesIn_42 : decode cX4_comesIn 42 = .ok (.iaload, 1) := by decide +kernel
theorem dX4_comesIn_43 : decode cX4_comesIn 43 = .ok (.iconst 1, 1) := by decide +kernel
theorem dX4_comesIn_44 : decode cX4_comesIn 44 = .ok (.iadd, 1) := by decide +kernel
theorem dX4_comesIn_45 : decode cX4_comesIn 45 = .ok (.iastore, 1) := by decide +kernel
theorem dX4_comesIn_46 : decode cX4_comesIn 46 = .ok (.iload_n 2, 1) := by decide +kernel
theorem dX4_comesIn_47 : decode cX4_comesIn 47 = .ok (.ireturn, 1) := by decide +kernel
set_option maxRecDepth 20000 in
theorem ggX4_person_X4_in : GoodIn wsX4_person wsX4_in := goodIn_r _ [6] (by decide +kernel) (by decide +kernel)
set_option maxRecDepth 20000 in
theorem gX4_person_X4_in : GoodIn wsX4_person (va_wsS RX4 46 yX4_in wsX4_in) := goodIn_app (goodIn_of _ (by decide +kernel)) ggX4_person_X4_in
set_option maxRecDepth 20000 in
theorem ggX4_person_X4_finds : GoodIn wsX4_person wsX4_finds := goodIn_r _ [10, 11, 12, 21, 22, 23, 24, 25, 26, 27, 28, 29, 30, 31, 32, 33, 34, 35, 36, 37, 38] (by decide +kernel) (by decide +kernel)
set_option maxRecDepth 20000 in
theorem gX4_person_X4_finds : GoodIn wsX4_person (wsV RX4 92 RX4 yX4_finds wsX4_finds) := goodIn_app (goodIn_of _ (by decide +kernel)) ggX4_person_X4_finds
set_option maxRecDepth 20000 in
theorem ggX4_person_X4_comesIn : GoodIn wsX4_person wsX4_comesIn := goodIn_r _ [16, 2, 17, 18, 19, 5, 20, 21, 22, 23, 24, 25, 26, 27, 28, 29, 30, 31, 32, 33, 34, 35, 36, 37, 38] (by decide +kernel) (by decide +kernel)
set_option maxRecDepth 20000 in
theorem gX4_person_X4_comesIn : GoodIn wsX4_person (wsV RX4 107 RX4 yX4_comesIn wsX4_comesIn) := goodIn_app (goodIn_of _ (by decide +kernel)) ggX4_person_X4_comesIn
theorem dX4_person_0 : decode cX4_person 0 = .ok (.iload_n 1, 1) := by decide +kernel
theorem dX4_person_1 : decode cX4_person 1 = .ok (.i2l, 1) := by decide +kernel
theorem dX4_person_2 : decode cX4_person 2 = .ok (.lconst 0, 1) := by decide +kernel
theorem dX4_person_3 : decode cX4_person 3 = .ok (.ldc2_w 105, 3) := by decide +kernel
theorem dX4_person_6 : decode cX4_person 6 = .ok (.invokestatic 46, 3) := by decide +kernel
theorem dX4_person_9 : decode cX4_person 9 = .ok (.ifCond .ne 9, 3) := by decide +kernel
theorem dX4_person_12 : decode cX4_person 12 = .ok (.aload_n 0, 1) := by decide +kernel
theorem dX4_person_13 : decode cX4_person 13 = .ok (.iconst 0, 1) := by decide +kernel
theorem dX4_person_14 : decode cX4_person 14 = .ok (.invokevirtual 92, 3) := by decide +kernel
theorem dX4_person_17 : decode cX4_person 17 = .ok (.ireturn, 1) := by decide +kernel
theorem dX4_person_18 : decode cX4_person 18 = .ok (.aload_n 0, 1) := by decide +kernel
theorem dX4_person_19 : decode cX4_person 19 = .ok (.getfield 7, 3) := by decide +kernel
theorem dX4_person_22 : decode cX4_person 22 = .ok (.iconst 0, 1) := by decide +kernel
theorem dX4_person_23 : decode cX4_person 23 = .ok (.iaload, 1) := by decide +kernel
theorem dX4_person_24 : decode cX4_person 24 = .ok (.bipush 8, 2) := by decide +kernel
theorem dX4_person_26 : decode cX4_person 26 = .ok (.if_icmp .ne 11, 3) := by decide +kernel
theorem dX4_person_29 : decode cX4_person 29 = .ok (.aload_n 0, 1) := by decide +kernel
theorem dX4_person_30 : decode cX4_person 30 = .ok (.iconst 1, 1) := by decide +kernel
theorem dX4_person_31 : decode cX4_person 31 = .ok (.invokevirtual 92, 3) := by decide +kernel
theorem dX4_person_34 : decode cX4_person 34 = .ok (.goto 8, 3) := by decide +kernel
theorem dX4_person_37 : decode cX4_person 37 = .ok (.aload_n 0, 1) := by decide +kernel
theorem dX4_person_38 : decode cX4_person 38 = .ok (.iload_n 1, 1) := by decide +kernel
theorem dX4_person_39 : decode cX4_person 39 = .ok (.invokevirtual 107, 3) := by decide +kernel
theorem dX4_person_42 : decode cX4_person 42 = .ok (.ireturn, 1) := by decide +kernel
set_option maxRecDepth 20000 in
theorem ggX4_of_X4_isPerson : GoodIn wsX4_of wsX4_isPerson := goodIn_r _ [6, 7, 8, 9, 5, 10, 33, 34, 35, 36, 37, 38, 39, 40, 41, 42, 43, 44, 45, 46, 47, 48, 49, 50] (by decide +kernel) (by decide +kernel)
set_option maxRecDepth 20000 in
theorem gX4_of_X4_isPerson : GoodIn wsX4_of (wsV RX4 50 RX4 yX4_isPerson wsX4_isPerson) := goodIn_app (goodIn_of _ (by decide +kernel)) ggX4_of_X4_isPerson
set_option maxRecDepth 20000 in
theorem ggX4_of_X4_in : GoodIn wsX4_of wsX4_in := goodIn_r _ [10] (by decide +kernel) (by decide +kernel)
set_option maxRecDepth 20000 in
theorem gX4_of_X4_in : GoodIn wsX4_of (va_wsS RX4 46 yX4_in wsX4_in) := goodIn_app (goodIn_of _ (by decide +kernel)) ggX4_of_X4_in
set_option maxRecDepth 20000 in
theorem ggX4_of_X4_finds : GoodIn wsX4_of wsX4_finds := goodIn_r _ [14, 15, 16, 33, 34, 35, 36, 37, 38, 39, 40, 41, 42, 43, 44, 45, 46, 47, 48, 49, 50] (by decide +kernel) (by decide +kernel)
set_option maxRecDepth 20000 in
theorem gX4_of_X4_finds : GoodIn wsX4_of (wsV RX4 92 RX4 yX4_finds wsX4_finds) := goodIn_app (goodIn_of _ (by decide +kernel)) ggX4_of_X4_finds
set_option maxRecDepth 20000 in
theorem ggX4_of_X4_its : GoodIn wsX4_of wsX4_its := goodIn_r _ [20, 7, 33, 34, 35, 36, 37, 38, 39, 40, 41, 42, 43, 44, 45, 46, 47, 48, 49, 50] (by decide +kernel) (by decide +kernel)
set_option maxRecDepth 20000 in
theorem gX4_of_X4_its : GoodIn wsX4_of (wsV RX4 54 RX4 yX4_its wsX4_its) := goodIn_app (goodIn_of _ (by decide +kernel)) ggX4_of_X4_its
set_option maxRecDepth 20000 in
theorem ggX4_of_X4_doesNow : GoodIn wsX4_of wsX4_doesNow := goodIn_r _ [24, 7, 17, 18, 19, 5, 20, 25, 26, 27, 28, 2, 3, 4, 6, 8, 9, 10, 33, 34, 35, 36, 37, 38, 39, 40, 41, 42, 43, 44, 45, 46, 47, 48, 49, 50] (by decide +kernel) (by decide +kernel)
set_option maxRecDepth 20000 in
theorem gX4_of_X4_doesNow : GoodIn wsX4_of (wsV RX4 66 RX4 yX4_doesNow wsX4_doesNow) := goodIn_app (goodIn_of _ (by decide +kernel)) ggX4_of_X4_doesNow
set_option maxRecDepth 20000 in
theorem ggX4_of_X4_stales : GoodIn wsX4_of wsX4_stales := goodIn_r _ [32, 17, 18, 19, 5, 20, 7, 33, 34, 35, 36, 37, 38, 39, 40, 41, 42, 43, 44, 45, 46, 47, 48, 49, 50] (by decide +kernel) (by decide +kernel)
set_option maxRecDepth 20000 in
theorem gX4_of_X4_stales : GoodIn wsX4_of (wsV RX4 77 RX4 yX4_stales wsX4_stales) := goodIn_app (goodIn_of _ (by decide +kernel)) ggX4_of_X4_stales
theorem dX4_of_0 : decode cX4_of 0 = .ok (.aload_n 0, 1) := by decide +kernel
theorem dX4_of_1 : decode cX4_of 1 = .ok (.iload_n 1, 1) := by decide +kernel
theorem dX4_of_2 : decode cX4_of 2 = .ok (.invokevirtual 50, 3) := by decide +kernel
theorem dX4_of_5 : decode cX4_of 5 = .ok (.ifCond .eq 15, 3) := by decide +kernel
theorem dX4_of_8 : decode cX4_of 8 = .ok (.iload_n 2, 1) := by decide +kernel
theorem dX4_of_9 : decode cX4_of 9 = .ok (.i2l, 1) := by decide +kernel
theorem dX4_of_10 : decode cX4_of 10 = .ok (.lconst 0, 1) := by decide +kernel
theorem dX4_of_11 : decode cX4_of 11 = .ok (.ldc2_w 105, 3) := by decide +kernel
theorem dX4_of_14 : decode cX4_of 14 = .ok (.invokestatic 46, 3) := by decide +kernel
theorem dX4_of_17 : decode cX4_of 17 = .ok (.ifCond .ne 9, 3) := by decide +kernel
theorem dX4_of_20 : decode cX4_of 20 = .ok (.aload_n 0, 1) := by decide +kernel
theorem dX4_of_21 : decode cX4_of 21 = .ok (.iconst 0, 1) := by decide +kernel
theorem dX4_of_22 : decode cX4_of 22 = .ok (.invokevirtual 92, 3) := by decide +kernel
theorem dX4_of_25 : decode cX4_of 25 = .ok (.ireturn, 1) := by decide +kernel
theorem dX4_of_26 : decode cX4_of 26 = .ok (.iload_n 2, 1) := by decide +kernel
theorem dX4_of_27 : decode cX4_of 27 = .ok (.tableswitch 55 2 5 #[29, 55, 40, 46], 29) := by decide +kernel
theorem dX4_of_56 : decode cX4_of 56 = .ok (.sipush 10000, 3) := by decide +kernel
theorem dX4_of_59 : decode cX4_of 59 = .ok (.aload_n 0, 1) := by decide +kernel
theorem dX4_of_60 : decode cX4_of 60 = .ok (.iload_n 1, 1) := by decide +kernel
theorem dX4_of_61 : decode cX4_of 61 = .ok (.iconst 2, 1) := by decide +kernel
theorem dX4_of_62 : decode cX4_of 62 = .ok (.invokevirtual 54, 3) := by decide +kernel
theorem dX4_of_65 : decode cX4_of 65 = .ok (.iadd, 1) := by decide +kernel
theorem dX4_of_66 : decode cX4_of 66 = .ok (.ireturn, 1) := by decide +kernel
theorem dX4_of_67 : decode cX4_of 67 = .ok (.aload_n 0, 1) := by decide +kernel
theorem dX4_of_68 : decode cX4_of 68 = .ok (.iload_n 1, 1) := by decide +kernel
theorem dX4_of_69 : decode cX4_of 69 = .ok (.invokevirtual 66, 3) := by decide +kernel
theorem dX4_of_72 : decode cX4_of 72 = .ok (.ireturn, 1) := by decide +kernel
theorem dX4_of_73 : decode cX4_of 73 = .ok (.bipush 100, 2) := by decide +kernel
theorem dX4_of_75 : decode cX4_of 75 = .ok (.aload_n 0, 1) := by decide +kernel
theorem dX4_of_76 : decode cX4_of 76 = .ok (.iload_n 1, 1) := by decide +kernel
theorem dX4_of_77 : decode cX4_of 77 = .ok (.invokevirtual 77, 3) := by decide +kernel
theorem dX4_of_80 : decode cX4_of 80 = .ok (.iadd, 1) := by decide +kernel
theorem dX4_of_81 : decode cX4_of 81 = .ok (.ireturn, 1) := by decide +kernel
theorem dX4_of_82 : decode cX4_of 82 = .ok (.aload_n 0, 1) := by decide +kernel
theorem dX4_of_83 : decode cX4_of 83 = .ok (.iload_n 1, 1) := by decide +kernel
theorem dX4_of_84 : decode cX4_of 84 = .ok (.iload_n 2, 1) := by decide +kernel
theorem dX4_of_85 : decode cX4_of 85 = .ok (.invokevirtual 54, 3) := by decide +kernel
theorem dX4_of_88 : decode cX4_of 88 = .ok (.ireturn, 1) := by decide +kernel
set_option maxRecDepth 20000 in
theorem ggX4_scores_X4_isPerson : GoodIn wsX4_scores wsX4_isPerson := goodIn_r _ [5, 6, 7, 8, 4, 9, 31, 32, 33, 34, 35, 36, 37, 38, 39, 40, 41, 42, 43, 44, 45, 46, 47, 48] (by decide +kernel) (by decide +kernel)
set_option maxRecDepth 20000 in
theorem gX4_scores_X4_isPerson : GoodIn wsX4_scores (wsV RX4 50 RX4 yX4_isPerson wsX4_isPerson) := goodIn_app (goodIn_of _ (by decide +kernel)) ggX4_scores_X4_isPerson
set_option maxRecDepth 20000 in
theorem ggX4_scores_X4_isDone : GoodIn wsX4_scores wsX4_isDone := goodIn_r _ [12, 13, 7, 8, 4, 9] (by decide +kernel) (by decide +kernel)
set_option maxRecDepth 20000 in
theorem gX4_scores_X4_isDone : GoodIn wsX4_scores (va_wsS RX4 110 yX4_isDone wsX4_isDone) := goodIn_app (goodIn_of _ (by decide +kernel)) ggX4_scores_X4_isDone
set_option maxRecDepth 20000 in
theorem ggX4_scores_X4_scoresFor : GoodIn wsX4_scores wsX4_scoresFor := goodIn_r _ [17, 18, 19, 20, 4, 21, 6, 22, 23, 24, 31, 32, 33, 34, 35, 36, 37, 38, 39, 40, 41, 42, 43, 44, 45, 46, 47, 48] (by decide +kernel) (by decide +kernel)
set_option maxRecDepth 20000 in
theorem gX4_scores_X4_scoresFor : GoodIn wsX4_scores (wsV RX4 70 RX4 yX4_scoresFor wsX4_scoresFor) := goodIn_app (goodIn_of _ (by decide +kernel)) ggX4_scores_X4_scoresFor
set_option maxRecDepth 20000 in
theorem ggX4_scores_X4_finds : GoodIn wsX4_scores wsX4_finds := goodIn_r _ [28, 29, 30, 31, 32, 33, 34, 35, 36, 37, 38, 39, 40, 41, 42, 43, 44, 45, 46, 47, 48] (by decide +kernel) (by decide +kernel)
set_option maxRecDepth 20000 in
theorem gX4_scores_X4_finds : GoodIn wsX4_scores (wsV RX4 92 RX4 yX4_finds wsX4_finds) := goodIn_app (goodIn_of _ (by decide +kernel)) ggX4_scores_X4_finds
theorem dX4_scores_0 : decode cX4_scores 0 = .ok (.aload_n 0, 1) := by decide +kernel
theorem dX4_scores_1 : decode cX4_scores 1 = .ok (.iload_n 1, 1) := by decide +kernel
theorem dX4_scores_2 : decode cX4_scores 2 = .ok (.invokevirtual 50, 3) := by decide +kernel
theorem dX4_scores_5 : decode cX4_scores 5 = .ok (.ifCond .eq 30, 3) := by decide +kernel
theorem dX4_scores_8 : decode cX4_scores 8 = .ok (.iload_n 2, 1) := by decide +kernel
theorem dX4_scores_9 : decode cX4_scores 9 = .ok (.invokestatic 110, 3) := by decide +kernel
theorem dX4_scores_12 : decode cX4_scores 12 = .ok (.ifCond .eq 23, 3) := by decide +kernel
theorem dX4_scores_15 : decode cX4_scores 15 = .ok (.iload_n 3, 1) := by decide +kernel
theorem dX4_scores_16 : decode cX4_scores 16 = .ok (.invokestatic 110, 3) := by decide +kernel
theorem dX4_scores_19 : decode cX4_scores 19 = .ok (.ifCond .eq 16, 3) := by decide +kernel
theorem dX4_scores_22 : decode cX4_scores 22 = .ok (.bipush 100, 2) := by decide +kernel
theorem dX4_scores_24 : decode cX4_scores 24 = .ok (.aload_n 0, 1) := by decide +kernel
theorem dX4_scores_25 : decode cX4_scores 25 = .ok (.iload_n 1, 1) := by decide +kernel
theorem dX4_scores_26 : decode cX4_scores 26 = .ok (.iload_n 2, 1) := by decide +kernel
theorem dX4_scores_27 : decode cX4_scores 27 = .ok (.iload_n 3, 1) := by decide +kernel
theorem dX4_scores_28 : decode cX4_scores 28 = .ok (.invokevirtual 70, 3) := by decide +kernel
theorem dX4_scores_31 : decode cX4_scores 31 = .ok (.iadd, 1) := by decide +kernel
theorem dX4_scores_32 : decode cX4_scores 32 = .ok (.goto 8, 3) := by decide +kernel
theorem dX4_scores_35 : decode cX4_scores 35 = .ok (.aload_n 0, 1) := by decide +kernel
theorem dX4_scores_36 : decode cX4_scores 36 = .ok (.iconst 0, 1) := by decide +kernel
theorem dX4_scores_37 : decode cX4_scores 37 = .ok (.invokevirtual 92, 3) := by decide +kernel
theorem dX4_scores_40 : decode cX4_scores 40 = .ok (.ireturn, 1) := by decide +kernel
set_option maxRecDepth 20000 in
theorem ggX4_set_X4_in : GoodIn wsX4_set wsX4_in := goodIn_r _ [7] (by decide +kernel) (by decide +kernel)
set_option maxRecDepth 20000 in
theorem gX4_set_X4_in : GoodIn wsX4_set (va_wsS RX4 46 yX4_in wsX4_in) := goodIn_app (goodIn_of _ (by decide +kernel)) ggX4_set_X4_in
set_option maxRecDepth 20000 in
theorem ggX4_set_X4_isDone : GoodIn wsX4_set wsX4_isDone := goodIn_r _ [10, 11, 4, 5, 6, 7] (by decide +kernel) (by decide +kernel)
set_option maxRecDepth 20000 in
theorem gX4_set_X4_isDone : GoodIn wsX4_set (va_wsS RX4 110 yX4_isDone wsX4_isDone) := goodIn_app (goodIn_of _ (by decide +kernel)) ggX4_set_X4_isDone
set_option maxRecDepth 20000 in
theorem ggX4_set_X4_isPerson : GoodIn wsX4_set wsX4_isPerson := goodIn_r _ [15, 16, 4, 5, 6, 7, 27, 28, 29, 30, 31, 32, 33, 34, 35, 36, 37, 38, 39, 40, 41, 42, 43, 44] (by decide +kernel) (by decide +kernel)
set_option maxRecDepth 20000 in
theorem gX4_set_X4_isPerson : GoodIn wsX4_set (wsV RX4 50 RX4 yX4_isPerson wsX4_isPerson) := goodIn_app (goodIn_of _ (by decide +kernel)) ggX4_set_X4_isPerson
set_option maxRecDepth 20000 in
theorem ggX4_set_X4_becomes : GoodIn wsX4_set wsX4_becomes := goodIn_r _ [20, 16, 27, 28, 29, 30, 31, 32, 33, 34, 35, 36, 37, 38, 39, 40, 41, 42, 43, 44] (by decide +kernel) (by decide +kernel)
set_option maxRecDepth 20000 in
theorem gX4_set_X4_becomes : GoodIn wsX4_set (wsV RX4 95 RX4 yX4_becomes wsX4_becomes) := goodIn_app (goodIn_of _ (by decide +kernel)) ggX4_set_X4_becomes
set_option maxRecDepth 20000 in
theorem ggX4_set_X4_finds : GoodIn wsX4_set wsX4_finds := goodIn_r _ [24, 25, 26, 27, 28, 29, 30, 31, 32, 33, 34, 35, 36, 37, 38, 39, 40, 41, 42, 43, 44] (by decide +kernel) (by decide +kernel)
set_option maxRecDepth 20000 in
theorem gX4_set_X4_finds : GoodIn wsX4_set (wsV RX4 92 RX4 yX4_finds wsX4_finds) := goodIn_app (goodIn_of _ (by decide +kernel)) ggX4_set_X4_finds
theorem dX4_set_0 : decode cX4_set 0 = .ok (.iload_n 2, 1) := by decide +kernel
theorem dX4_set_1 : decode cX4_set 1 = .ok (.iconst 1, 1) := by decide +kernel
theorem dX4_set_2 : decode cX4_set 2 = .ok (.if_icmp .ne 15, 3) := by decide +kernel
theorem dX4_set_5 : decode cX4_set 5 = .ok (.iload_n 3, 1) := by decide +kernel
theorem dX4_set_6 : decode cX4_set 6 = .ok (.i2l, 1) := by decide +kernel
theorem dX4_set_7 : decode cX4_set 7 = .ok (.lconst 0, 1) := by decide +kernel
theorem dX4_set_8 : decode cX4_set 8 = .ok (.ldc2_w 113, 3) := by decide +kernel
theorem dX4_set_11 : decode cX4_set 11 = .ok (.invokestatic 46, 3) := by decide +kernel
theorem dX4_set_14 : decode cX4_set 14 = .ok (.goto 39, 3) := by decide +kernel
theorem dX4_set_17 : decode cX4_set 17 = .ok (.iload_n 2, 1) := by decide +kernel
theorem dX4_set_18 : decode cX4_set 18 = .ok (.iconst 2, 1) := by decide +kernel
theorem dX4_set_19 : decode cX4_set 19 = .ok (.if_icmp .ne 17, 3) := by decide +kernel
theorem dX4_set_22 : decode cX4_set 22 = .ok (.iload_n 3, 1) := by decide +kernel
theorem dX4_set_23 : decode cX4_set 23 = .ok (.i2l, 1) := by decide +kernel
theorem dX4_set_24 : decode cX4_set 24 = .ok (.ldc2_w 115, 3) := by decide +kernel
theorem dX4_set_27 : decode cX4_set 27 = .ok (.ldc2_w 117, 3) := by decide +kernel
theorem dX4_set_30 : decode cX4_set 30 = .ok (.invokestatic 46, 3) := by decide +kernel
theorem dX4_set_33 : decode cX4_set 33 = .ok (.goto 20, 3) := by decide +kernel
theorem dX4_set_36 : decode cX4_set 36 = .ok (.iload_n 2, 1) := by decide +kernel
theorem dX4_set_37 : decode cX4_set 37 = .ok (.iconst 3, 1) := by decide +kernel
theorem dX4_set_38 : decode cX4_set 38 = .ok (.if_icmp .ne 14, 3) := by decide +kernel
theorem dX4_set_41 : decode cX4_set 41 = .ok (.iload_n 3, 1) := by decide +kernel
theorem dX4_set_42 : decode cX4_set 42 = .ok (.invokestatic 110, 3) := by decide +kernel
theorem dX4_set_45 : decode cX4_set 45 = .ok (.ifCond .eq 7, 3) := by decide +kernel
theorem dX4_set_48 : decode cX4_set 48 = .ok (.iconst 1, 1) := by decide +kernel
theorem dX4_set_49 : decode cX4_set 49 = .ok (.goto 4, 3) := by decide +kernel
theorem dX4_set_52 : decode cX4_set 52 = .ok (.iconst 0, 1) := by decide +kernel
theorem dX4_set_53 : decode cX4_set 53 = .ok (.istore 4, 2) := by decide +kernel
theorem dX4_set_55 : decode cX4_set 55 = .ok (.aload_n 0, 1) := by decide +kernel
theorem dX4_set_56 : decode cX4_set 56 = .ok (.iload_n 1, 1) := by decide +kernel
theorem dX4_set_57 : decode cX4_set 57 = .ok (.invokevirtual 50, 3) := by decide +kernel
theorem dX4_set_60 : decode cX4_set 60 = .ok (.ifCond .eq 24, 3) := by decide +kernel
theorem dX4_set_63 : decode cX4_set 63 = .ok (.iload 4, 2) := by decide +kernel
theorem dX4_set_65 : decode cX4_set 65 = .ok (.ifCond .eq 19, 3) := by decide +kernel
theorem dX4_set_68 : decode cX4_set 68 = .ok (.aload_n 0, 1) := by decide +kernel
theorem dX4_set_69 : decode cX4_set 69 = .ok (.bipush 35, 2) := by decide +kernel
theorem dX4_set_71 : decode cX4_set 71 = .ok (.iconst 4, 1) := by decide +kernel
theorem dX4_set_72 : decode cX4_set 72 = .ok (.iload_n 1, 1) := by decide +kernel
theorem dX4_set_73 : decode cX4_set 73 = .ok (.imul, 1) := by decide +kernel
theorem dX4_set_74 : decode cX4_set 74 = .ok (.iadd, 1) := by decide +kernel
theorem dX4_set_75 : decode cX4_set 75 = .ok (.iload_n 2, 1) := by decide +kernel
theorem dX4_set_76 : decode cX4_set 76 = .ok (.iadd, 1) := by decide +kernel
theorem dX4_set_77 : decode cX4_set 77 = .ok (.iload_n 3, 1) := by decide +kernel
theorem dX4_set_78 : decode cX4_set 78 = .ok (.invokevirtual 95, 3) := by decide +kernel
theorem dX4_set_81 : decode cX4_set 81 = .ok (.goto 8, 3) := by decide +kernel
theorem dX4_set_84 : decode cX4_set 84 = .ok (.aload_n 0, 1) := by decide +kernel
theorem dX4_set_85 : decode cX4_set 85 = .ok (.iconst 0, 1) := by decide +kernel
theorem dX4_set_86 : decode cX4_set 86 = .ok (.invokevirtual 92, 3) := by decide +kernel
theorem dX4_set_89 : decode cX4_set 89 = .ok (.ireturn, 1) := by decide +kernel
set_option maxRecDepth 20000 in
theorem ggX4_turn_X4_isPerson : GoodIn wsX4_turn wsX4_isPerson := goodIn_r _ [6, 7, 8, 9, 5, 10, 21, 22, 23, 24, 25, 26, 27, 28, 29, 30, 31, 32, 33, 34, 35, 36, 37, 38] (by decide +kernel) (by decide +kernel)
set_option maxRecDepth 20000 in
theorem gX4_turn_X4_isPerson : GoodIn wsX4_turn (wsV RX4 50 RX4 yX4_isPerson wsX4_isPerson) := goodIn_app (goodIn_of _ (by decide +kernel)) ggX4_turn_X4_isPerson
set_option maxRecDepth 20000 in
theorem ggX4_turn_X4_in : GoodIn wsX4_turn wsX4_in := goodIn_r _ [10] (by decide +kernel) (by decide +kernel)
set_option maxRecDepth 20000 in
theorem gX4_turn_X4_in : GoodIn wsX4_turn (va_wsS RX4 46 yX4_in wsX4_in) := goodIn_app (goodIn_of _ (by decide +kernel)) ggX4_turn_X4_in
set_option maxRecDepth 20000 in
theorem ggX4_turn_X4_becomes : GoodIn wsX4_turn wsX4_becomes := goodIn_r _ [14, 7, 21, 22, 23, 24, 25, 26, 27, 28, 29, 30, 31, 32, 33, 34, 35, 36, 37, 38] (by decide +kernel) (by decide +kernel)
set_option maxRecDepth 20000 in
theorem gX4_turn_X4_becomes : GoodIn wsX4_turn (wsV RX4 95 RX4 yX4_becomes wsX4_becomes) := goodIn_app (goodIn_of _ (by decide +kernel)) ggX4_turn_X4_becomes
set_option maxRecDepth 20000 in
theorem ggX4_turn_X4_finds : GoodIn wsX4_turn wsX4_finds := goodIn_r _ [18, 19, 20, 21, 22, 23, 24, 25, 26, 27, 28, 29, 30, 31, 32, 33, 34, 35, 36, 37, 38] (by decide +kernel) (by decide +kernel)
set_option maxRecDepth 20000 in
theorem gX4_turn_X4_finds : GoodIn wsX4_turn (wsV RX4 92 RX4 yX4_finds wsX4_finds) := goodIn_app (goodIn_of _ (by decide +kernel)) ggX4_turn_X4_finds
theorem dX4_turn_0 : decode cX4_turn 0 = .ok (.aload_n 0, 1) := by decide +kernel
theorem dX4_turn_1 : decode cX4_turn 1 = .ok (.iload_n 1, 1) := by decide +kernel
theorem dX4_turn_2 : decode cX4_turn 2 = .ok (.invokevirtual 50, 3) := by decide +kernel
theorem dX4_turn_5 : decode cX4_turn 5 = .ok (.ifCond .eq 29, 3) := by decide +kernel
theorem dX4_turn_8 : decode cX4_turn 8 = .ok (.iload_n 2, 1) := by decide +kernel
theorem dX4_turn_9 : decode cX4_turn 9 = .ok (.i2l, 1) := by decide +kernel
theorem dX4_turn_10 : decode cX4_turn 10 = .ok (.lconst 0, 1) := by decide +kernel
theorem dX4_turn_11 : decode cX4_turn 11 = .ok (.ldc2_w 105, 3) := by decide +kernel
theorem dX4_turn_14 : decode cX4_turn 14 = .ok (.invokestatic 46, 3) := by decide +kernel
theorem dX4_turn_17 : decode cX4_turn 17 = .ok (.ifCond .eq 17, 3) := by decide +kernel
theorem dX4_turn_20 : decode cX4_turn 20 = .ok (.aload_n 0, 1) := by decide +kernel
theorem dX4_turn_21 : decode cX4_turn 21 = .ok (.bipush 35, 2) := by decide +kernel
theorem dX4_turn_23 : decode cX4_turn 23 = .ok (.iconst 4, 1) := by decide +kernel
theorem dX4_turn_24 : decode cX4_turn 24 = .ok (.iload_n 1, 1) := by decide +kernel
theorem dX4_turn_25 : decode cX4_turn 25 = .ok (.imul, 1) := by decide +kernel
theorem dX4_turn_26 : decode cX4_turn 26 = .ok (.iadd, 1) := by decide +kernel
theorem dX4_turn_27 : decode cX4_turn 27 = .ok (.iload_n 2, 1) := by decide +kernel
theorem dX4_turn_28 : decode cX4_turn 28 = .ok (.invokevirtual 95, 3) := by decide +kernel
theorem dX4_turn_31 : decode cX4_turn 31 = .ok (.goto 8, 3) := by decide +kernel
theorem dX4_turn_34 : decode cX4_turn 34 = .ok (.aload_n 0, 1) := by decide +kernel
theorem dX4_turn_35 : decode cX4_turn 35 = .ok (.iconst 0, 1) := by decide +kernel
theorem dX4_turn_36 : decode cX4_turn 36 = .ok (.invokevirtual 92, 3) := by decide +kernel
theorem dX4_turn_39 : decode cX4_turn 39 = .ok (.ireturn, 1) := by decide +kernel
set_option maxRecDepth 20000 in
theorem ggX4_as_X4_isPerson : GoodIn wsX4_as wsX4_isPerson := goodIn_r _ [6, 7, 8, 9, 5, 10, 21, 22, 23, 24, 25, 26, 27, 28, 29, 30, 31, 32, 33, 34, 35, 36, 37, 38] (by decide +kernel) (by decide +kernel)
set_option maxRecDepth 20000 in
theorem gX4_as_X4_isPerson : GoodIn wsX4_as (wsV RX4 50 RX4 yX4_isPerson wsX4_isPerson) := goodIn_app (goodIn_of _ (by decide +kernel)) ggX4_as_X4_isPerson
set_option maxRecDepth 20000 in
theorem ggX4_as_X4_in : GoodIn wsX4_as wsX4_in := goodIn_r _ [10] (by decide +kernel) (by decide +kernel)
set_option maxRecDepth 20000 in
theorem gX4_as_X4_in : GoodIn wsX4_as (va_wsS RX4 46 yX4_in wsX4_in) := goodIn_app (goodIn_of _ (by decide +kernel)) ggX4_as_X4_in
set_option maxRecDepth 20000 in
theorem ggX4_as_X4_finds : GoodIn wsX4_as wsX4_finds := goodIn_r _ [14, 15, 16, 21, 22, 23, 24, 25, 26, 27, 28, 29, 30, 31, 32, 33, 34, 35, 36, 37, 38] (by decide +kernel) (by decide +kernel)
set_option maxRecDepth 20000 in
theorem gX4_as_X4_finds : GoodIn wsX4_as (wsV RX4 92 RX4 yX4_finds wsX4_finds) := goodIn_app (goodIn_of _ (by decide +kernel)) ggX4_as_X4_finds
set_option maxRecDepth 20000 in
theorem ggX4_as_X4_its : GoodIn wsX4_as wsX4_its := goodIn_r _ [20, 7, 21, 22, 23, 24, 25, 26, 27, 28, 29, 30, 31, 32, 33, 34, 35, 36, 37, 38] (by decide +kernel) (by decide +kernel)
set_option maxRecDepth 20000 in
theorem gX4_as_X4_its : GoodIn wsX4_as (wsV RX4 54 RX4 yX4_its wsX4_its) := goodIn_app (goodIn_of _ (by decide +kernel)) ggX4_as_X4_its
theorem dX4_as_0 : decode cX4_as 0 = .ok (.aload_n 0, 1) := by decide +kernel
theorem dX4_as_1 : decode cX4_as 1 = .ok (.iload_n 1, 1) := by decide +kernel
theorem dX4_as_2 : decode cX4_as 2 = .ok (.invokevirtual 50, 3) := by decide +kernel
theorem dX4_as_5 : decode cX4_as 5 = .ok (.ifCond .eq 15, 3) := by decide +kernel
theorem dX4_as_8 : decode cX4_as 8 = .ok (.iload_n 2, 1) := by decide +kernel
theorem dX4_as_9 : decode cX4_as 9 = .ok (.i2l, 1) := by decide +kernel
theorem dX4_as_10 : decode cX4_as 10 = .ok (.lconst 0, 1) := by decide +kernel
theorem dX4_as_11 : decode cX4_as 11 = .ok (.ldc2_w 105, 3) := by decide +kernel
theorem dX4_as_14 : decode cX4_as 14 = .ok (.invokestatic 46, 3) := by decide +kernel
theorem dX4_as_17 : decode cX4_as 17 = .ok (.ifCond .ne 9, 3) := by decide +kernel
theorem dX4_as_20 : decode cX4_as 20 = .ok (.aload_n 0, 1) := by decide +kernel
theorem dX4_as_21 : decode cX4_as 21 = .ok (.iconst 0, 1) := by decide +kernel
theorem dX4_as_22 : decode cX4_as 22 = .ok (.invokevirtual 92, 3) := by decide +kernel
theorem dX4_as_25 : decode cX4_as 25 = .ok (.ireturn, 1) := by decide +kernel
theorem dX4_as_26 : decode cX4_as 26 = .ok (.aload_n 0, 1) := by decide +kernel
theorem dX4_as_27 : decode cX4_as 27 = .ok (.iload_n 1, 1) := by decide +kernel
theorem dX4_as_28 : decode cX4_as 28 = .ok (.iconst 0, 1) := by decide +kernel
theorem dX4_as_29 : decode cX4_as 29 = .ok (.invokevirtual 54, 3) := by decide +kernel
theorem dX4_as_32 : decode cX4_as 32 = .ok (.istore_n 3, 1) := by decide +kernel
theorem dX4_as_33 : decode cX4_as 33 = .ok (.iload_n 2, 1) := by decide +kernel
theorem dX4_as_34 : decode cX4_as 34 = .ok (.ifCond .eq 20, 3) := by decide +kernel
theorem dX4_as_37 : decode cX4_as 37 = .ok (.iload_n 3, 1) := by decide +kernel
theorem dX4_as_38 : decode cX4_as 38 = .ok (.iload_n 2, 1) := by decide +kernel
theorem dX4_as_39 : decode cX4_as 39 = .ok (.if_icmp .eq 15, 3) := by decide +kernel
theorem dX4_as_42 : decode cX4_as 42 = .ok (.iload_n 3, 1) := by decide +kernel
theorem dX4_as_43 : decode cX4_as 43 = .ok (.iload_n 2, 1) := by decide +kernel
theorem dX4_as_44 : decode cX4_as 44 = .ok (.iconst 3, 1) := by decide +kernel
theorem dX4_as_45 : decode cX4_as 45 = .ok (.iadd, 1) := by decide +kernel
theorem dX4_as_46 : decode cX4_as 46 = .ok (.if_icmp .ne 17, 3) := by decide +kernel
theorem dX4_as_49 : decode cX4_as 49 = .ok (.iload_n 2, 1) := by decide +kernel
theorem dX4_as_50 : decode cX4_as 50 = .ok (.iconst 3, 1) := by decide +kernel
theorem dX4_as_51 : decode cX4_as 51 = .ok (.if_icmp .ge 12, 3) := by decide +kernel
theorem dX4_as_54 : decode cX4_as 54 = .ok (.aload_n 0, 1) := by decide +kernel
theorem dX4_as_55 : decode cX4_as 55 = .ok (.iload_n 1, 1) := by decide +kernel
theorem dX4_as_56 : decode cX4_as 56 = .ok (.iconst 1, 1) := by decide +kernel
theorem dX4_as_57 : decode cX4_as 57 = .ok (.invokevirtual 54, 3) := by decide +kernel
theorem dX4_as_60 : decode cX4_as 60 = .ok (.goto 8, 3) := by decide +kernel
theorem dX4_as_63 : decode cX4_as 63 = .ok (.aload_n 0, 1) := by decide +kernel
theorem dX4_as_64 : decode cX4_as 64 = .ok (.iconst 2, 1) := by decide +kernel
theorem dX4_as_65 : decode cX4_as 65 = .ok (.invokevirtual 92, 3) := by decide +kernel
theorem dX4_as_68 : decode cX4_as 68 = .ok (.ireturn, 1) := by decide +kernel
set_option maxRecDepth 20000 in
theorem ggX4_swaps_X4_its : GoodIn wsX4_swaps wsX4_its := goodIn_r _ [5, 6, 11, 12, 13, 14, 15, 16, 17, 18, 19, 20, 21, 22, 23, 24, 25, 26, 27, 28] (by decide +kernel) (by decide +kernel)
set_option maxRecDepth 20000 in
theorem gX4_swaps_X4_its : GoodIn wsX4_swaps (wsV RX4 54 RX4 yX4_its wsX4_its) := goodIn_app (goodIn_of _ (by decide +kernel)) ggX4_swaps_X4_its
set_option maxRecDepth 20000 in
theorem ggX4_swaps_X4_sets : GoodIn wsX4_swaps wsX4_sets := goodIn_r _ [10, 6, 11, 12, 13, 14, 15, 16, 17, 18, 19, 20, 21, 22, 23, 24, 25, 26, 27, 28] (by decide +kernel) (by decide +kernel)
set_option maxRecDepth 20000 in
theorem gX4_swaps_X4_sets : GoodIn wsX4_swaps (wsV RX4 73 RX4 yX4_sets wsX4_sets) := goodIn_app (goodIn_of _ (by decide +kernel)) ggX4_swaps_X4_sets
theorem dX4_swaps_0 : decode cX4_swaps 0 = .ok (.iconst 0, 1) := by decide +kernel
theorem dX4_swaps_1 : decode cX4_swaps 1 = .ok (.istore_n 3, 1) := by decide +kernel
theorem dX4_swaps_2 : decode cX4_swaps 2 = .ok (.iload_n 3, 1) := by decide +kernel
theorem dX4_swaps_3 : decode cX4_swaps 3 = .ok (.iconst 4, 1) := by decide +kernel
theorem dX4_swaps_4 : decode cX4_swaps 4 = .ok (.if_icmp .ge 37, 3) := by decide +kernel
theorem dX4_swaps_7 : decode cX4_swaps 7 = .ok (.aload_n 0, 1) := by decide +kernel
theorem dX4_swaps_8 : decode cX4_swaps 8 = .ok (.iload_n 1, 1) := by decide +kernel
theorem dX4_swaps_9 : decode cX4_swaps 9 = .ok (.iload_n 3, 1) := by decide +kernel
theorem dX4_swaps_10 : decode cX4_swaps 10 = .ok (.invokevirtual 54, 3) := by decide +kernel
theorem dX4_swaps_13 : decode cX4_swaps 13 = .ok (.istore 4, 2) := by decide +kernel
theorem dX4_swaps_15 : decode cX4_swaps 15 = .ok (.aload_n 0, 1) := by decide +kernel
theorem dX4_swaps_16 : decode cX4_swaps 16 = .ok (.iload_n 1, 1) := by decide +kernel
theorem dX4_swaps_17 : decode cX4_swaps 17 = .ok (.iload_n 3, 1) := by decide +kernel
theorem dX4_swaps_18 : decode cX4_swaps 18 = .ok (.aload_n 0, 1) := by decide +kernel
theorem dX4_swaps_19 : decode cX4_swaps 19 = .ok (.iload_n 2, 1) := by decide +kernel
theorem dX4_swaps_20 : decode cX4_swaps 20 = .ok (.iload_n 3, 1) := by decide +kernel
theorem dX4_swaps_21 : decode cX4_swaps 21 = .ok (.invokevirtual 54, 3) := by decide +kernel
theorem dX4_swaps_24 : decode cX4_swaps 24 = .ok (.invokevirtual 73, 3) := by decide +kernel
theorem dX4_swaps_27 : decode cX4_swaps 27 = .ok (.aload_n 0, 1) := by decide +kernel
theorem dX4_swaps_28 : decode cX4_swaps 28 = .ok (.iload_n 2, 1) := by decide +kernel
theorem dX4_swaps_29 : decode cX4_swaps 29 = .ok (.iload_n 3, 1) := by decide +kernel
theorem dX4_swaps_30 : decode cX4_swaps 30 = .ok (.iload 4, 2) := by decide +kernel
theorem dX4_swaps_32 : decode cX4_swaps 32 = .ok (.invokevirtual 73, 3) := by decide +kernel
theorem dX4_swaps_35 : decode cX4_swaps 35 = .ok (.iinc 3 1, 3) := by decide +kernel
theorem dX4_swaps_38 : decode cX4_swaps 38 = .ok (.goto (-36), 3) := by decide +kernel
theorem dX4_swaps_41 : decode cX4_swaps 41 = .ok (.return_, 1) := by decide +kernel
set_option maxRecDepth 20000 in
theorem ggX4_swap_X4_isPerson : GoodIn wsX4_swap wsX4_isPerson := goodIn_r _ [5, 6, 7, 8, 4, 9, 28, 29, 30, 31, 32, 33, 34, 35, 36, 37, 38, 39, 40, 41, 42, 43, 44, 45] (by decide +kernel) (by decide +kernel)
set_option maxRecDepth 20000 in
theorem gX4_swap_X4_isPerson : GoodIn wsX4_swap (wsV RX4 50 RX4 yX4_isPerson wsX4_isPerson) := goodIn_app (goodIn_of _ (by decide +kernel)) ggX4_swap_X4_isPerson
set_option maxRecDepth 20000 in
theorem ggX4_swap_X4_finds : GoodIn wsX4_swap wsX4_finds := goodIn_r _ [13, 14, 15, 28, 29, 30, 31, 32, 33, 34, 35, 36, 37, 38, 39, 40, 41, 42, 43, 44, 45] (by decide +kernel) (by decide +kernel)
set_option maxRecDepth 20000 in
theorem gX4_swap_X4_finds : GoodIn wsX4_swap (wsV RX4 92 RX4 yX4_finds wsX4_finds) := goodIn_app (goodIn_of _ (by decide +kernel)) ggX4_swap_X4_finds
set_option maxRecDepth 20000 in
theorem ggX4_swap_X4_swaps : GoodIn wsX4_swap wsX4_swaps := goodIn_r _ [19, 20, 21, 22, 4, 23, 6, 24, 25, 26, 27, 28, 29, 30, 31, 32, 33, 34, 35, 36, 37, 38, 39, 40, 41, 42, 43, 44, 45] (by decide +kernel) (by decide +kernel)
set_option maxRecDepth 20000 in
theorem gX4_swap_X4_swaps : GoodIn wsX4_swap (wsV RX4 119 RX4 yX4_swaps wsX4_swaps) := goodIn_app (goodIn_of _ (by decide +kernel)) ggX4_swap_X4_swaps
theorem dX4_swap_0 : decode cX4_swap 0 = .ok (.aload_n 0, 1) := by decide +kernel
theorem dX4_swap_1 : decode cX4_swap 1 = .ok (.iload_n 1, 1) := by decide +kernel
theorem dX4_swap_2 : decode cX4_swap 2 = .ok (.invokevirtual 50, 3) := by decide +kernel
theorem dX4_swap_5 : decode cX4_swap 5 = .ok (.ifCond .eq 16, 3) := by decide +kernel
theorem dX4_swap_8 : decode cX4_swap 8 = .ok (.aload_n 0, 1) := by decide +kernel
theorem dX4_swap_9 : decode cX4_swap 9 = .ok (.iload_n 2, 1) := by decide +kernel
theorem dX4_swap_10 : decode cX4_swap 10 = .ok (.invokevirtual 50, 3) := by decide +kernel
theorem dX4_swap_13 : decode cX4_swap 13 = .ok (.ifCond .eq 8, 3) := by decide +kernel
theorem dX4_swap_16 : decode cX4_swap 16 = .ok (.iload_n 1, 1) := by decide +kernel
theorem dX4_swap_17 : decode cX4_swap 17 = .ok (.iload_n 2, 1) := by decide +kernel
theorem dX4_swap_18 : decode cX4_swap 18 = .ok (.if_icmp .ne 9, 3) := by decide +kernel
theorem dX4_swap_21 : decode cX4_swap 21 = .ok (.aload_n 0, 1) := by decide +kernel
theorem dX4_swap_22 : decode cX4_swap 22 = .ok (.iconst 0, 1) := by decide +kernel
theorem dX4_swap_23 : decode cX4_swap 23 = .ok (.invokevirtual 92, 3) := by decide +kernel
theorem dX4_swap_26 : decode cX4_swap 26 = .ok (.ireturn, 1) := by decide +kernel
theorem dX4_swap_27 : decode cX4_swap 27 = .ok (.aload_n 0, 1) := by decide +kernel
theorem dX4_swap_28 : decode cX4_swap 28 = .ok (.iload_n 1, 1) := by decide +kernel
theorem dX4_swap_29 : decode cX4_swap 29 = .ok (.iload_n 2, 1) := by decide +kernel
theorem dX4_swap_30 : decode cX4_swap 30 = .ok (.invokevirtual 119, 3) := by decide +kernel
theorem dX4_swap_33 : decode cX4_swap 33 = .ok (.iconst 1, 1) := by decide +kernel
theorem dX4_swap_34 : decode cX4_swap 34 = .ok (.ireturn, 1) := by decide +kernel
set_option maxRecDepth 20000 in
theorem ggX4_moments_X4_in : GoodIn wsX4_moments wsX4_in := goodIn_r _ [6] (by decide +kernel) (by decide +kernel)
set_option maxRecDepth 20000 in
theorem gX4_moments_X4_in : GoodIn wsX4_moments (va_wsS RX4 46 yX4_in wsX4_in) := goodIn_app (goodIn_of _ (by decide +kernel)) ggX4_moments_X4_in
set_option maxRecDepth 20000 in
theorem ggX4_moments_X4_finds : GoodIn wsX4_moments wsX4_finds := goodIn_r _ [10, 11, 12, 53, 54, 55, 56, 57, 58, 59, 60, 61, 62, 63, 64, 65, 66, 67, 68, 69, 70] (by decide +kernel) (by decide +kernel)
set_option maxRecDepth 20000 in
theorem gX4_moments_X4_finds : GoodIn wsX4_moments (wsV RX4 92 RX4 yX4_finds wsX4_finds) := goodIn_app (goodIn_of _ (by decide +kernel)) ggX4_moments_X4_finds
set_option maxRecDepth 20000 in
theorem ggX4_moments_X4_momentsGo : GoodIn wsX4_moments wsX4_momentsGo := goodIn_r _ [16, 17, 18, 19, 5, 20, 2, 21, 22, 23, 24, 25, 26, 27, 28, 29, 30, 31, 32, 33, 34, 35, 36, 37, 3, 4, 6, 38, 39, 40, 41, 42, 43, 44, 45, 46, 47, 48, 49, 50, 51, 52, 53, 54, 55, 56, 57, 58, 59, 60, 61, 62, 63, 64, 65, 66, 67, 68, 69, 70] (by decide +kernel) (by decide +kernel)
set_option maxRecDepth 20000 in
theorem gX4_moments_X4_momentsGo : GoodIn wsX4_moments (wsV RX4 125 RX4 yX4_momentsGo wsX4_momentsGo) := goodIn_app (goodIn_of _ (by decide +kernel)) ggX4_moments_X4_momentsGo
theorem dX4_moments_0 : decode cX4_moments 0 = .ok (.iload_n 1, 1) := by decide +kernel
theorem dX4_moments_1 : decode cX4_moments 1 = .ok (.i2l, 1) := by decide +kernel
theorem dX4_moments_2 : decode cX4_moments 2 = .ok (.lconst 1, 1) := by decide +kernel
theorem dX4_moments_3 : decode cX4_moments 3 = .ok (.ldc2_w 123, 3) := by decide +kernel
theorem dX4_moments_6 : decode cX4_moments 6 = .ok (.invokestatic 46, 3) := by decide +kernel
theorem dX4_moments_9 : decode cX4_moments 9 = .ok (.ifCond .ne 9, 3) := by decide +kernel
theorem dX4_moments_12 : decode cX4_moments 12 = .ok (.aload_n 0, 1) := by decide +kernel
theorem dX4_moments_13 : decode cX4_moments 13 = .ok (.iconst 0, 1) := by decide +kernel
theorem dX4_moments_14 : decode cX4_moments 14 = .ok (.invokevirtual 92, 3) := by decide +kernel
theorem dX4_moments_17 : decode cX4_moments 17 = .ok (.ireturn, 1) := by decide +kernel
theorem dX4_moments_18 : decode cX4_moments 18 = .ok (.aload_n 0, 1) := by decide +kernel
theorem dX4_moments_19 : decode cX4_moments 19 = .ok (.getfield 7, 3) := by decide +kernel
theorem dX4_moments_22 : decode cX4_moments 22 = .ok (.iconst 1, 1) := by decide +kernel
theorem dX4_moments_23 : decode cX4_moments 23 = .ok (.iaload, 1) := by decide +kernel
theorem dX4_moments_24 : decode cX4_moments 24 = .ok (.aload_n 0, 1) := by decide +kernel
theorem dX4_moments_25 : decode cX4_moments 25 = .ok (.getfield 7, 3) := by decide +kernel
theorem dX4_moments_28 : decode cX4_moments 28 = .ok (.iconst 2, 1) := by decide +kernel
theorem dX4_moments_29 : decode cX4_moments 29 = .ok (.iaload, 1) := by decide +kernel
theorem dX4_moments_30 : decode cX4_moments 30 = .ok (.iload_n 1, 1) := by decide +kernel
theorem dX4_moments_31 : decode cX4_moments 31 = .ok (.iadd, 1) := by decide +kernel
theorem dX4_moments_32 : decode cX4_moments 32 = .ok (.bipush 16, 2) := by decide +kernel
theorem dX4_moments_34 : decode cX4_moments 34 = .ok (.idiv, 1) := by decide +kernel
theorem dX4_moments_35 : decode cX4_moments 35 = .ok (.iadd, 1) := by decide +kernel
theorem dX4_moments_36 : decode cX4_moments 36 = .ok (.sipush 9999, 3) := by decide +kernel
theorem dX4_moments_39 : decode cX4_moments 39 = .ok (.if_icmp .le 9, 3) := by decide +kernel
theorem dX4_moments_42 : decode cX4_moments 42 = .ok (.aload_n 0, 1) := by decide +kernel
theorem dX4_moments_43 : decode cX4_moments 43 = .ok (.iconst 4, 1) := by decide +kernel
theorem dX4_moments_44 : decode cX4_moments 44 = .ok (.invokevirtual 92, 3) := by decide +kernel
theorem dX4_moments_47 : decode cX4_moments 47 = .ok (.ireturn, 1) := by decide +kernel
theorem dX4_moments_48 : decode cX4_moments 48 = .ok (.aload_n 0, 1) := by decide +kernel
theorem dX4_moments_49 : decode cX4_moments 49 = .ok (.iload_n 1, 1) := by decide +kernel
theorem dX4_moments_50 : decode cX4_moments 50 = .ok (.invokevirtual 125, 3) := by decide +kernel
theorem dX4_moments_53 : decode cX4_moments 53 = .ok (.aload_n 0, 1) := by decide +kernel
theorem dX4_moments_54 : decode cX4_moments 54 = .ok (.getfield 7, 3) := by decide +kernel
theorem dX4_moments_57 : decode cX4_moments 57 = .ok (.iconst 2, 1) := by decide +kernel
theorem dX4_moments_58 : decode cX4_moments 58 = .ok (.iaload, 1) := by decide +kernel
theorem dX4_moments_59 : decode cX4_moments 59 = .ok (.ireturn, 1) := by decide +kernel
set_option maxRecDepth 20000 in
theorem ggX4_behind_X4_momentsGo : GoodIn wsX4_behind wsX4_momentsGo := goodIn_r _ [7, 8, 9, 10, 6, 11, 1, 12, 13, 14, 15, 16, 17, 18, 19, 20, 21, 22, 23, 24, 25, 26, 27, 28, 29, 30, 31, 32, 33, 34, 35, 36, 37, 38, 39, 40, 41, 42, 43, 44, 45, 46, 50, 51, 52, 53, 54, 55, 56, 57, 58, 59, 60, 61, 62, 63, 64, 65, 66, 67] (by decide +kernel) (by decide +kernel)
set_option maxRecDepth 20000 in
theorem gX4_behind_X4_momentsGo : GoodIn wsX4_behind (wsV RX4 125 RX4 yX4_momentsGo wsX4_momentsGo) := goodIn_app (goodIn_of _ (by decide +kernel)) ggX4_behind_X4_momentsGo
set_option maxRecDepth 20000 in
theorem ggX4_behind_X4_copies : GoodIn wsX4_behind wsX4_copies := goodIn_r _ [49] (by decide +kernel) (by decide +kernel)
set_option maxRecDepth 20000 in
theorem gX4_behind_X4_copies : GoodIn wsX4_behind (va_wsS RX4 129 yX4_copies wsX4_copies) := goodIn_app (goodIn_of _ (by decide +kernel)) ggX4_behind_X4_copies
theorem dX4_behind_0 : decode cX4_behind 0 = .ok (.aload_n 0, 1) := by decide +kernel
theorem dX4_behind_1 : decode cX4_behind 1 = .ok (.iload_n 1, 1) := by decide +kernel
theorem dX4_behind_2 : decode cX4_behind 2 = .ok (.invokevirtual 125, 3) := by decide +kernel
theorem dX4_behind_5 : decode cX4_behind 5 = .ok (.aload_n 0, 1) := by decide +kernel
theorem dX4_behind_6 : decode cX4_behind 6 = .ok (.getfield 7, 3) := by decide +kernel
theorem dX4_behind_9 : decode cX4_behind 9 = .ok (.iload_n 2, 1) := by decide +kernel
theorem dX4_behind_10 : decode cX4_behind 10 = .ok (.iaload, 1) := by decide +kernel
theorem dX4_behind_11 : decode cX4_behind 11 = .ok (.istore_n 3, 1) := by decide +kernel
theorem dX4_behind_12 : decode cX4_behind 12 = .ok (.aload_n 0, 1) := by decide +kernel
theorem dX4_behind_13 : decode cX4_behind 13 = .ok (.getfield 16, 3) := by decide +kernel
theorem dX4_behind_16 : decode cX4_behind 16 = .ok (.aload_n 0, 1) := by decide +kernel
theorem dX4_behind_17 : decode cX4_behind 17 = .ok (.getfield 7, 3) := by decide +kernel
theorem dX4_behind_20 : decode cX4_behind 20 = .ok (.invokestatic 129, 3) := by decide +kernel
theorem dX4_behind_23 : decode cX4_behind 23 = .ok (.iload_n 3, 1) := by decide +kernel
theorem dX4_behind_24 : decode cX4_behind 24 = .ok (.ireturn, 1) := by decide +kernel
set_option maxRecDepth 20000 in
theorem ggX4_houseBehind_X4_momentsGo : GoodIn wsX4_houseBehind wsX4_momentsGo := goodIn_r _ [7, 8, 9, 10, 6, 11, 2, 12, 13, 14, 15, 16, 17, 18, 19, 20, 21, 22, 23, 24, 25, 26, 27, 28, 29, 30, 31, 32, 33, 34, 35, 36, 37, 38, 39, 40, 41, 42, 43, 44, 45, 46, 54, 55, 56, 57, 58, 59, 60, 61, 62, 63, 64, 65, 66, 67, 68, 69, 70, 71] (by decide +kernel) (by decide +kernel)
set_option maxRecDepth 20000 in
theorem gX4_houseBehind_X4_momentsGo : GoodIn wsX4_houseBehind (wsV RX4 125 RX4 yX4_momentsGo wsX4_momentsGo) := goodIn_app (goodIn_of _ (by decide +kernel)) ggX4_houseBehind_X4_momentsGo
set_option maxRecDepth 20000 in
theorem ggX4_houseBehind_X4_sumOf : GoodIn wsX4_houseBehind wsX4_sumOf := goodIn_r _ [50, 2, 17, 18, 19, 6, 20, 54, 55, 56, 57, 58, 59, 60, 61, 62, 63, 64, 65, 66, 67, 68, 69, 70, 71] (by decide +kernel) (by decide +kernel)
set_option maxRecDepth 20000 in
theorem gX4_houseBehind_X4_sumOf : GoodIn wsX4_houseBehind (wsV RX4 98 RX4 yX4_sumOf wsX4_sumOf) := goodIn_app (goodIn_of _ (by decide +kernel)) ggX4_houseBehind_X4_sumOf
set_option maxRecDepth 20000 in
theorem ggX4_houseBehind_X4_copies : GoodIn wsX4_houseBehind wsX4_copies := goodIn_r _ [53] (by decide +kernel) (by decide +kernel)
set_option maxRecDepth 20000 in
theorem gX4_houseBehind_X4_copies : GoodIn wsX4_houseBehind (va_wsS RX4 129 yX4_copies wsX4_copies) := goodIn_app (goodIn_of _ (by decide +kernel)) ggX4_houseBehind_X4_copies
theorem dX4_houseBehind_0 : decode cX4_houseBehind 0 = .ok (.aload_n 0, 1) := by decide +kernel
theorem dX4_houseBehind_1 : decode cX4_houseBehind 1 = .ok (.iload_n 1, 1) := by decide +kernel
theorem dX4_houseBehind_2 : decode cX4_houseBehind 2 = .ok (.invokevirtual 125, 3) := by decide +kernel
theorem dX4_houseBehind_5 : decode cX4_houseBehind 5 = .ok (.aload_n 0, 1) := by decide +kernel
theorem dX4_houseBehind_6 : decode cX4_houseBehind 6 = .ok (.iconst 2, 1) := by decide +kernel
theorem dX4_houseBehind_7 : decode cX4_houseBehind 7 = .ok (.invokevirtual 98, 3) := by decide +kernel
theorem dX4_houseBehind_10 : decode cX4_houseBehind 10 = .ok (.istore_n 2, 1) := by decide +kernel
theorem dX4_houseBehind_11 : decode cX4_houseBehind 11 = .ok (.aload_n 0, 1) := by decide +kernel
theorem dX4_houseBehind_12 : decode cX4_houseBehind 12 = .ok (.getfield 16, 3) := by decide +kernel
theorem dX4_houseBehind_15 : decode cX4_houseBehind 15 = .ok (.aload_n 0, 1) := by decide +kernel
theorem dX4_houseBehind_16 : decode cX4_houseBehind 16 = .ok (.getfield 7, 3) := by decide +kernel
theorem dX4_houseBehind_19 : decode cX4_houseBehind 19 = .ok (.invokestatic 129, 3) := by decide +kernel
theorem dX4_houseBehind_22 : decode cX4_houseBehind 22 = .ok (.iload_n 2, 1) := by decide +kernel
theorem dX4_houseBehind_23 : decode cX4_houseBehind 23 = .ok (.ireturn, 1) := by decide +kernel
set_option maxRecDepth 20000 in
theorem ggX4_isAhead_X4_in : GoodIn wsX4_isAhead wsX4_in := goodIn_r _ [5] (by decide +kernel) (by decide +kernel)
set_option maxRecDepth 20000 in
theorem gX4_isAhead_X4_in : GoodIn wsX4_isAhead (va_wsS RX4 46 yX4_in wsX4_in) := goodIn_app (goodIn_of _ (by decide +kernel)) ggX4_isAhead_X4_in
theorem dX4_isAhead_0 : decode cX4_isAhead 0 = .ok (.iload_n 0, 1) := by decide +kernel
theorem dX4_isAhead_1 : decode cX4_isAhead 1 = .ok (.i2l, 1) := by decide +kernel
theorem dX4_isAhead_2 : decode cX4_isAhead 2 = .ok (.lconst 0, 1) := by decide +kernel
theorem dX4_isAhead_3 : decode cX4_isAhead 3 = .ok (.ldc2_w 133, 3) := by decide +kernel
theorem dX4_isAhead_6 : decode cX4_isAhead 6 = .ok (.invokestatic 46, 3) := by decide +kernel
theorem dX4_isAhead_9 : decode cX4_isAhead 9 = .ok (.ireturn, 1) := by decide +kernel
set_option maxRecDepth 20000 in
theorem ggX4_isShort_X4_in : GoodIn wsX4_isShort wsX4_in := goodIn_r _ [5] (by decide +kernel) (by decide +kernel)
set_option maxRecDepth 20000 in
theorem gX4_isShort_X4_in : GoodIn wsX4_isShort (va_wsS RX4 46 yX4_in wsX4_in) := goodIn_app (goodIn_of _ (by decide +kernel)) ggX4_isShort_X4_in
theorem dX4_isShort_0 : decode cX4_isShort 0 = .ok (.iload_n 0, 1) := by decide +kernel
theorem dX4_isShort_1 : decode cX4_isShort 1 = .ok (.i2l, 1) := by decide +kernel
theorem dX4_isShort_2 : decode cX4_isShort 2 = .ok (.lconst 1, 1) := by decide +kernel
theorem dX4_isShort_3 : decode cX4_isShort 3 = .ok (.ldc2_w 135, 3) := by decide +kernel
theorem dX4_isShort_6 : decode cX4_isShort 6 = .ok (.invokestatic 46, 3) := by decide +kernel
theorem dX4_isShort_9 : decode cX4_isShort 9 = .ok (.ireturn, 1) := by decide +kernel
theorem dX4_whereNote_0 : decode cX4_whereNote 0 = .ok (.bipush 35, 2) := by decide +kernel
theorem dX4_whereNote_2 : decode cX4_whereNote 2 = .ok (.iconst 4, 1) := by decide +kernel
theorem dX4_whereNote_3 : decode cX4_whereNote 3 = .ok (.iload_n 1, 1) := by decide +kernel
theorem dX4_whereNote_4 : decode cX4_whereNote 4 = .ok (.imul, 1) := by decide +kernel
theorem dX4_whereNote_5 : decode cX4_whereNote 5 = .ok (.iadd, 1) := by decide +kernel
theorem dX4_whereNote_6 : decode cX4_whereNote 6 = .ok (.iconst 2, 1) := by decide +kernel
theorem dX4_whereNote_7 : decode cX4_whereNote 7 = .ok (.iadd, 1) := by decide +kernel
theorem dX4_whereNote_8 : decode cX4_whereNote 8 = .ok (.ireturn, 1) := by decide +kernel
set_option maxRecDepth 20000 in
theorem ggX4_note_X4_isPerson : GoodIn wsX4_note wsX4_isPerson := goodIn_r _ [7, 1, 8, 9, 6, 10, 68, 69, 70, 71, 72, 73, 74, 75, 76, 77, 78, 79, 80, 81, 82, 83, 84, 85] (by decide +kernel) (by decide +kernel)
set_option maxRecDepth 20000 in
theorem gX4_note_X4_isPerson : GoodIn wsX4_note (wsV RX4 50 RX4 yX4_isPerson wsX4_isPerson) := goodIn_app (goodIn_of _ (by decide +kernel)) ggX4_note_X4_isPerson
set_option maxRecDepth 20000 in
theorem ggX4_note_X4_isAhead : GoodIn wsX4_note wsX4_isAhead := goodIn_r _ [13, 14, 8, 9, 6, 10] (by decide +kernel) (by decide +kernel)
set_option maxRecDepth 20000 in
theorem gX4_note_X4_isAhead : GoodIn wsX4_note (va_wsS RX4 137 yX4_isAhead wsX4_isAhead) := goodIn_app (goodIn_of _ (by decide +kernel)) ggX4_note_X4_isAhead
set_option maxRecDepth 20000 in
theorem ggX4_note_X4_finds : GoodIn wsX4_note wsX4_finds := goodIn_r _ [18, 19, 20, 68, 69, 70, 71, 72, 73, 74, 75, 76, 77, 78, 79, 80, 81, 82, 83, 84, 85] (by decide +kernel) (by decide +kernel)
set_option maxRecDepth 20000 in
theorem gX4_note_X4_finds : GoodIn wsX4_note (wsV RX4 92 RX4 yX4_finds wsX4_finds) := goodIn_app (goodIn_of _ (by decide +kernel)) ggX4_note_X4_finds
set_option maxRecDepth 20000 in
theorem ggX4_note_X4_copies : GoodIn wsX4_note wsX4_copies := goodIn_r _ [23] (by decide +kernel) (by decide +kernel)
set_option maxRecDepth 20000 in
theorem gX4_note_X4_copies : GoodIn wsX4_note (va_wsS RX4 129 yX4_copies wsX4_copies) := goodIn_app (goodIn_of _ (by decide +kernel)) ggX4_note_X4_copies
set_option maxRecDepth 20000 in
theorem ggX4_note_X4_whereNote : GoodIn wsX4_note wsX4_whereNote := goodIn_r _ [27] (by decide +kernel) (by decide +kernel)
set_option maxRecDepth 20000 in
theorem gX4_note_X4_whereNote : GoodIn wsX4_note (wsV RX4 140 RX4 yX4_whereNote wsX4_whereNote) := goodIn_app (goodIn_of _ (by decide +kernel)) ggX4_note_X4_whereNote
set_option maxRecDepth 20000 in
theorem ggX4_note_X4_behind : GoodIn wsX4_note wsX4_behind := goodIn_r _ [31, 1, 2, 32, 33, 34, 6, 35, 36, 37, 38, 39, 40, 41, 42, 43, 44, 45, 46, 47, 48, 49, 50, 51, 52, 3, 4, 5, 7, 8, 9, 10, 53, 54, 55, 56, 57, 58, 59, 60, 61, 62, 63, 64, 65, 66, 67, 21, 22, 23, 68, 69, 70, 71, 72, 73, 74, 75, 76, 77, 78, 79, 80, 81, 82, 83, 84, 85] (by decide +kernel) (by decide +kernel)
set_option maxRecDepth 20000 in
theorem gX4_note_X4_behind : GoodIn wsX4_note (wsV RX4 143 RX4 yX4_behind wsX4_behind) := goodIn_app (goodIn_of _ (by decide +kernel)) ggX4_note_X4_behind
theorem dX4_note_0 : decode cX4_note 0 = .ok (.aload_n 0, 1) := by decide +kernel
theorem dX4_note_1 : decode cX4_note 1 = .ok (.iload_n 1, 1) := by decide +kernel
theorem dX4_note_2 : decode cX4_note 2 = .ok (.invokevirtual 50, 3) := by decide +kernel
theorem dX4_note_5 : decode cX4_note 5 = .ok (.ifCond .eq 10, 3) := by decide +kernel
theorem dX4_note_8 : decode cX4_note 8 = .ok (.iload_n 2, 1) := by decide +kernel
theorem dX4_note_9 : decode cX4_note 9 = .ok (.invokestatic 137, 3) := by decide +kernel
theorem dX4_note_12 : decode cX4_note 12 = .ok (.ifCond .ne 9, 3) := by decide +kernel
theorem dX4_note_15 : decode cX4_note 15 = .ok (.aload_n 0, 1) := by decide +kernel
theorem dX4_note_16 : decode cX4_note 16 = .ok (.iconst 0, 1) := by decide +kernel
theorem dX4_note_17 : decode cX4_note 17 = .ok (.invokevirtual 92, 3) := by decide +kernel
theorem dX4_note_20 : decode cX4_note 20 = .ok (.ireturn, 1) := by decide +kernel
theorem dX4_note_21 : decode cX4_note 21 = .ok (.aload_n 0, 1) := by decide +kernel
theorem dX4_note_22 : decode cX4_note 22 = .ok (.getfield 7, 3) := by decide +kernel
theorem dX4_note_25 : decode cX4_note 25 = .ok (.aload_n 0, 1) := by decide +kernel
theorem dX4_note_26 : decode cX4_note 26 = .ok (.getfield 16, 3) := by decide +kernel
theorem dX4_note_29 : decode cX4_note 29 = .ok (.invokestatic 129, 3) := by decide +kernel
theorem dX4_note_32 : decode cX4_note 32 = .ok (.aload_n 0, 1) := by decide +kernel
theorem dX4_note_33 : decode cX4_note 33 = .ok (.iload_n 2, 1) := by decide +kernel
theorem dX4_note_34 : decode cX4_note 34 = .ok (.aload_n 0, 1) := by decide +kernel
theorem dX4_note_35 : decode cX4_note 35 = .ok (.iload_n 1, 1) := by decide +kernel
theorem dX4_note_36 : decode cX4_note 36 = .ok (.invokevirtual 140, 3) := by decide +kernel
theorem dX4_note_39 : decode cX4_note 39 = .ok (.invokevirtual 143, 3) := by decide +kernel
theorem dX4_note_42 : decode cX4_note 42 = .ok (.ireturn, 1) := by decide +kernel
set_option maxRecDepth 20000 in
theorem ggX4_on_X4_isPerson : GoodIn wsX4_on wsX4_isPerson := goodIn_r _ [7, 1, 8, 9, 6, 10, 64, 65, 66, 67, 68, 69, 70, 71, 72, 73, 74, 75, 76, 77, 78, 79, 80, 81] (by decide +kernel) (by decide +kernel)
set_option maxRecDepth 20000 in
theorem gX4_on_X4_isPerson : GoodIn wsX4_on (wsV RX4 50 RX4 yX4_isPerson wsX4_isPerson) := goodIn_app (goodIn_of _ (by decide +kernel)) ggX4_on_X4_isPerson
set_option maxRecDepth 20000 in
theorem ggX4_on_X4_isAhead : GoodIn wsX4_on wsX4_isAhead := goodIn_r _ [13, 14, 8, 9, 6, 10] (by decide +kernel) (by decide +kernel)
set_option maxRecDepth 20000 in
theorem gX4_on_X4_isAhead : GoodIn wsX4_on (va_wsS RX4 137 yX4_isAhead wsX4_isAhead) := goodIn_app (goodIn_of _ (by decide +kernel)) ggX4_on_X4_isAhead
set_option maxRecDepth 20000 in
theorem ggX4_on_X4_in : GoodIn wsX4_on wsX4_in := goodIn_r _ [10] (by decide +kernel) (by decide +kernel)
set_option maxRecDepth 20000 in
theorem gX4_on_X4_in : GoodIn wsX4_on (va_wsS RX4 46 yX4_in wsX4_in) := goodIn_app (goodIn_of _ (by decide +kernel)) ggX4_on_X4_in
set_option maxRecDepth 20000 in
theorem ggX4_on_X4_finds : GoodIn wsX4_on wsX4_finds := goodIn_r _ [18, 19, 20, 64, 65, 66, 67, 68, 69, 70, 71, 72, 73, 74, 75, 76, 77, 78, 79, 80, 81] (by decide +kernel) (by decide +kernel)
set_option maxRecDepth 20000 in
theorem gX4_on_X4_finds : GoodIn wsX4_on (wsV RX4 92 RX4 yX4_finds wsX4_finds) := goodIn_app (goodIn_of _ (by decide +kernel)) ggX4_on_X4_finds
set_option maxRecDepth 20000 in
theorem ggX4_on_X4_copies : GoodIn wsX4_on wsX4_copies := goodIn_r _ [23] (by decide +kernel) (by decide +kernel)
set_option maxRecDepth 20000 in
theorem gX4_on_X4_copies : GoodIn wsX4_on (va_wsS RX4 129 yX4_copies wsX4_copies) := goodIn_app (goodIn_of _ (by decide +kernel)) ggX4_on_X4_copies
set_option maxRecDepth 20000 in
theorem ggX4_on_X4_behind : GoodIn wsX4_on wsX4_behind := goodIn_r _ [27, 1, 2, 28, 29, 30, 6, 31, 32, 33, 34, 35, 36, 37, 38, 39, 40, 41, 42, 43, 44, 45, 46, 47, 48, 3, 4, 5, 7, 8, 9, 10, 49, 50, 51, 52, 53, 54, 55, 56, 57, 58, 59, 60, 61, 62, 63, 21, 22, 23, 64, 65, 66, 67, 68, 69, 70, 71, 72, 73, 74, 75, 76, 77, 78, 79, 80, 81] (by decide +kernel) (by decide +kernel)
set_option maxRecDepth 20000 in
theorem gX4_on_X4_behind : GoodIn wsX4_on (wsV RX4 143 RX4 yX4_behind wsX4_behind) := goodIn_app (goodIn_of _ (by decide +kernel)) ggX4_on_X4_behind
theorem dX4_on_0 : decode cX4_on 0 = .ok (.aload_n 0, 1) := by decide +kernel
theorem dX4_on_1 : decode cX4_on 1 = .ok (.iload_n 1, 1) := by decide +kernel
theorem dX4_on_2 : decode cX4_on 2 = .ok (.invokevirtual 50, 3) := by decide +kernel
theorem dX4_on_5 : decode cX4_on 5 = .ok (.ifCond .eq 20, 3) := by decide +kernel
theorem dX4_on_8 : decode cX4_on 8 = .ok (.iload_n 2, 1) := by decide +kernel
theorem dX4_on_9 : decode cX4_on 9 = .ok (.invokestatic 137, 3) := by decide +kernel
theorem dX4_on_12 : decode cX4_on 12 = .ok (.ifCond .eq 13, 3) := by decide +kernel
theorem dX4_on_15 : decode cX4_on 15 = .ok (.iload_n 3, 1) := by decide +kernel
theorem dX4_on_16 : decode cX4_on 16 = .ok (.i2l, 1) := by decide +kernel
theorem dX4_on_17 : decode cX4_on 17 = .ok (.lconst 0, 1) := by decide +kernel
theorem dX4_on_18 : decode cX4_on 18 = .ok (.lconst 1, 1) := by decide +kernel
theorem dX4_on_19 : decode cX4_on 19 = .ok (.invokestatic 46, 3) := by decide +kernel
theorem dX4_on_22 : decode cX4_on 22 = .ok (.ifCond .ne 9, 3) := by decide +kernel
theorem dX4_on_25 : decode cX4_on 25 = .ok (.aload_n 0, 1) := by decide +kernel
theorem dX4_on_26 : decode cX4_on 26 = .ok (.iconst 0, 1) := by decide +kernel
theorem dX4_on_27 : decode cX4_on 27 = .ok (.invokevirtual 92, 3) := by decide +kernel
theorem dX4_on_30 : decode cX4_on 30 = .ok (.ireturn, 1) := by decide +kernel
theorem dX4_on_31 : decode cX4_on 31 = .ok (.aload_n 0, 1) := by decide +kernel
theorem dX4_on_32 : decode cX4_on 32 = .ok (.getfield 7, 3) := by decide +kernel
theorem dX4_on_35 : decode cX4_on 35 = .ok (.aload_n 0, 1) := by decide +kernel
theorem dX4_on_36 : decode cX4_on 36 = .ok (.getfield 16, 3) := by decide +kernel
