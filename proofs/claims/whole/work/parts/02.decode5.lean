theorem dX6_open_8 : decode cX6_open 8 = .ok (.iload_n 2, 1) := by decide +kernel
theorem dX6_open_9 : decode cX6_open 9 = .ok (.invokestatic 99, 3) := by decide +kernel
theorem dX6_open_12 : decode cX6_open 12 = .ok (.ifCond .eq 25, 3) := by decide +kernel
theorem dX6_open_15 : decode cX6_open 15 = .ok (.iload_n 3, 1) := by decide +kernel
theorem dX6_open_16 : decode cX6_open 16 = .ok (.iconst 0, 1) := by decide +kernel
theorem dX6_open_17 : decode cX6_open 17 = .ok (.sipush 1439, 3) := by decide +kernel
theorem dX6_open_20 : decode cX6_open 20 = .ok (.invokestatic 92, 3) := by decide +kernel
theorem dX6_open_23 : decode cX6_open 23 = .ok (.ifCond .eq 14, 3) := by decide +kernel
theorem dX6_open_26 : decode cX6_open 26 = .ok (.aload_n 0, 1) := by decide +kernel
theorem dX6_open_27 : decode cX6_open 27 = .ok (.iload_n 1, 1) := by decide +kernel
theorem dX6_open_28 : decode cX6_open 28 = .ok (.iload_n 2, 1) := by decide +kernel
theorem dX6_open_29 : decode cX6_open 29 = .ok (.iload_n 3, 1) := by decide +kernel
theorem dX6_open_30 : decode cX6_open 30 = .ok (.iload_n 3, 1) := by decide +kernel
theorem dX6_open_31 : decode cX6_open 31 = .ok (.invokevirtual 171, 3) := by decide +kernel
theorem dX6_open_34 : decode cX6_open 34 = .ok (.goto 4, 3) := by decide +kernel
theorem dX6_open_37 : decode cX6_open 37 = .ok (.iconst (-1), 1) := by decide +kernel
theorem dX6_open_38 : decode cX6_open 38 = .ok (.ireturn, 1) := by decide +kernel
set_option maxRecDepth 20000 in
theorem ggX6_minutes_X6_isHouse : GoodIn wsX6_minutes wsX6_isHouse := goodIn_r _ [5, 6, 7, 8, 4, 9, 76, 77, 78, 79, 80, 81, 82, 83, 84, 85, 86, 87, 88, 89, 90, 91, 92, 93, 94, 95, 96, 97, 98, 99, 100, 101, 102, 103, 104, 105, 106, 107] (by decide +kernel) (by decide +kernel)
set_option maxRecDepth 20000 in
theorem gX6_minutes_X6_isHouse : GoodIn wsX6_minutes (wsV RX6 133 RX6 yX6_isHouse wsX6_isHouse) := goodIn_app (goodIn_of _ (by decide +kernel)) ggX6_minutes_X6_isHouse
set_option maxRecDepth 20000 in
theorem ggX6_minutes_X6_isDay : GoodIn wsX6_minutes wsX6_isDay := goodIn_r _ [12, 7, 8, 4, 9] (by decide +kernel) (by decide +kernel)
set_option maxRecDepth 20000 in
theorem gX6_minutes_X6_isDay : GoodIn wsX6_minutes (va_wsS RX6 99 yX6_isDay wsX6_isDay) := goodIn_app (goodIn_of _ (by decide +kernel)) ggX6_minutes_X6_isDay
set_option maxRecDepth 20000 in
theorem ggX6_minutes_X6_opens : GoodIn wsX6_minutes wsX6_opens := goodIn_r _ [16, 17, 18, 19, 20, 4, 21, 22, 23, 24, 25, 26, 27, 28, 29, 30, 31, 32, 33, 34, 35, 36, 37, 38, 39, 40, 41, 42, 43, 7, 8, 9, 44, 45, 46, 47, 48, 49, 50, 51, 52, 53, 54, 55, 56, 57, 58, 59, 60, 61, 62, 63, 64, 65, 66, 67, 68, 69, 70, 71, 72, 73, 74, 75, 76, 77, 78, 79, 80, 81, 82, 83, 84, 85, 86, 87, 88, 89, 90, 91, 92, 93, 94, 95, 96, 97, 98, 99, 100, 101, 102, 103, 104, 105, 106, 107] (by decide +kernel) (by decide +kernel)
set_option maxRecDepth 20000 in
theorem gX6_minutes_X6_opens : GoodIn wsX6_minutes (wsV RX6 171 RX6 yX6_opens wsX6_opens) := goodIn_app (goodIn_of _ (by decide +kernel)) ggX6_minutes_X6_opens
theorem dX6_minutes_0 : decode cX6_minutes 0 = .ok (.aload_n 0, 1) := by decide +kernel
theorem dX6_minutes_1 : decode cX6_minutes 1 = .ok (.iload_n 1, 1) := by decide +kernel
theorem dX6_minutes_2 : decode cX6_minutes 2 = .ok (.invokevirtual 133, 3) := by decide +kernel
theorem dX6_minutes_5 : decode cX6_minutes 5 = .ok (.ifCond .eq 23, 3) := by decide +kernel
theorem dX6_minutes_8 : decode cX6_minutes 8 = .ok (.iload_n 2, 1) := by decide +kernel
theorem dX6_minutes_9 : decode cX6_minutes 9 = .ok (.invokestatic 99, 3) := by decide +kernel
theorem dX6_minutes_12 : decode cX6_minutes 12 = .ok (.ifCond .eq 16, 3) := by decide +kernel
theorem dX6_minutes_15 : decode cX6_minutes 15 = .ok (.aload_n 0, 1) := by decide +kernel
theorem dX6_minutes_16 : decode cX6_minutes 16 = .ok (.iload_n 1, 1) := by decide +kernel
theorem dX6_minutes_17 : decode cX6_minutes 17 = .ok (.iload_n 2, 1) := by decide +kernel
theorem dX6_minutes_18 : decode cX6_minutes 18 = .ok (.iconst 0, 1) := by decide +kernel
theorem dX6_minutes_19 : decode cX6_minutes 19 = .ok (.sipush 1439, 3) := by decide +kernel
theorem dX6_minutes_22 : decode cX6_minutes 22 = .ok (.invokevirtual 171, 3) := by decide +kernel
theorem dX6_minutes_25 : decode cX6_minutes 25 = .ok (.goto 4, 3) := by decide +kernel
theorem dX6_minutes_28 : decode cX6_minutes 28 = .ok (.iconst (-1), 1) := by decide +kernel
theorem dX6_minutes_29 : decode cX6_minutes 29 = .ok (.ireturn, 1) := by decide +kernel
set_option maxRecDepth 20000 in
theorem ggX6_owes_X6_isHouse : GoodIn wsX6_owes wsX6_isHouse := goodIn_r _ [11, 3, 12, 13, 10, 14, 51, 52, 53, 54, 55, 56, 57, 58, 59, 60, 61, 62, 63, 64, 65, 66, 67, 68, 69, 70, 71, 72, 73, 74, 75, 76, 77, 78, 79, 80, 81, 82] (by decide +kernel) (by decide +kernel)
set_option maxRecDepth 20000 in
theorem gX6_owes_X6_isHouse : GoodIn wsX6_owes (wsV RX6 133 RX6 yX6_isHouse wsX6_isHouse) := goodIn_app (goodIn_of _ (by decide +kernel)) ggX6_owes_X6_isHouse
set_option maxRecDepth 20000 in
theorem ggX6_owes_X6_surplusFrom : GoodIn wsX6_owes wsX6_surplusFrom := goodIn_r _ [18, 1, 19, 20, 21, 51, 52, 53, 54, 55, 56, 57, 58, 59, 60, 61, 62, 63, 64, 65, 66, 67, 68, 69, 70, 71, 72, 73, 74, 75, 76, 77, 78, 79, 80, 81, 82] (by decide +kernel) (by decide +kernel)
set_option maxRecDepth 20000 in
theorem gX6_owes_X6_surplusFrom : GoodIn wsX6_owes (wsV RX6 149 RX6 yX6_surplusFrom wsX6_surplusFrom) := goodIn_app (goodIn_of _ (by decide +kernel)) ggX6_owes_X6_surplusFrom
set_option maxRecDepth 20000 in
theorem ggX6_owes_X6_worthOn : GoodIn wsX6_owes wsX6_worthOn := goodIn_r _ [25, 26, 27, 28, 51, 52, 53, 54, 55, 56, 57, 58, 59, 60, 61, 62, 63, 64, 65, 66, 67, 68, 69, 70, 71, 72, 73, 74, 75, 76, 77, 78, 79, 80, 81, 82] (by decide +kernel) (by decide +kernel)
set_option maxRecDepth 20000 in
theorem gX6_owes_X6_worthOn : GoodIn wsX6_owes (wsV RX6 158 RX6 yX6_worthOn wsX6_worthOn) := goodIn_app (goodIn_of _ (by decide +kernel)) ggX6_owes_X6_worthOn
set_option maxRecDepth 20000 in
theorem ggX6_owes_X6_has : GoodIn wsX6_owes wsX6_has := goodIn_r _ [32, 33, 34, 35, 10, 36, 37, 1, 38, 39, 40, 41, 19, 21, 42, 43, 44, 45, 20, 46, 47, 48, 49, 50, 12, 13, 14, 15, 16, 17, 18, 51, 52, 53, 54, 55, 56, 57, 58, 59, 60, 61, 62, 63, 64, 65, 66, 67, 68, 69, 70, 71, 72, 73, 74, 75, 76, 77, 78, 79, 80, 81, 82] (by decide +kernel) (by decide +kernel)
set_option maxRecDepth 20000 in
theorem gX6_owes_X6_has : GoodIn wsX6_owes (wsV RX6 119 RX6 yX6_has wsX6_has) := goodIn_app (goodIn_of _ (by decide +kernel)) ggX6_owes_X6_has
theorem dX6_owes_0 : decode cX6_owes 0 = .ok (.aload_n 0, 1) := by decide +kernel
theorem dX6_owes_1 : decode cX6_owes 1 = .ok (.iload_n 1, 1) := by decide +kernel
theorem dX6_owes_2 : decode cX6_owes 2 = .ok (.invokevirtual 133, 3) := by decide +kernel
theorem dX6_owes_5 : decode cX6_owes 5 = .ok (.ifCond .eq 11, 3) := by decide +kernel
theorem dX6_owes_8 : decode cX6_owes 8 = .ok (.aload_n 0, 1) := by decide +kernel
theorem dX6_owes_9 : decode cX6_owes 9 = .ok (.iload_n 2, 1) := by decide +kernel
theorem dX6_owes_10 : decode cX6_owes 10 = .ok (.invokevirtual 133, 3) := by decide +kernel
theorem dX6_owes_13 : decode cX6_owes 13 = .ok (.ifCond .ne 5, 3) := by decide +kernel
theorem dX6_owes_16 : decode cX6_owes 16 = .ok (.iconst (-1), 1) := by decide +kernel
theorem dX6_owes_17 : decode cX6_owes 17 = .ok (.ireturn, 1) := by decide +kernel
theorem dX6_owes_18 : decode cX6_owes 18 = .ok (.aload_n 0, 1) := by decide +kernel
theorem dX6_owes_19 : decode cX6_owes 19 = .ok (.iload_n 2, 1) := by decide +kernel
theorem dX6_owes_20 : decode cX6_owes 20 = .ok (.sipush 3999, 3) := by decide +kernel
theorem dX6_owes_23 : decode cX6_owes 23 = .ok (.invokevirtual 149, 3) := by decide +kernel
theorem dX6_owes_26 : decode cX6_owes 26 = .ok (.istore_n 3, 1) := by decide +kernel
theorem dX6_owes_27 : decode cX6_owes 27 = .ok (.iload_n 3, 1) := by decide +kernel
theorem dX6_owes_28 : decode cX6_owes 28 = .ok (.ldc 126, 2) := by decide +kernel
theorem dX6_owes_30 : decode cX6_owes 30 = .ok (.if_icmp .ne 6, 3) := by decide +kernel
theorem dX6_owes_33 : decode cX6_owes 33 = .ok (.bipush (-2), 2) := by decide +kernel
theorem dX6_owes_35 : decode cX6_owes 35 = .ok (.ireturn, 1) := by decide +kernel
theorem dX6_owes_36 : decode cX6_owes 36 = .ok (.ldc2_w 174, 3) := by decide +kernel
theorem dX6_owes_39 : decode cX6_owes 39 = .ok (.aload_n 0, 1) := by decide +kernel
theorem dX6_owes_40 : decode cX6_owes 40 = .ok (.iload_n 2, 1) := by decide +kernel
theorem dX6_owes_41 : decode cX6_owes 41 = .ok (.iload_n 3, 1) := by decide +kernel
theorem dX6_owes_42 : decode cX6_owes 42 = .ok (.invokevirtual 158, 3) := by decide +kernel
theorem dX6_owes_45 : decode cX6_owes 45 = .ok (.i2l, 1) := by decide +kernel
theorem dX6_owes_46 : decode cX6_owes 46 = .ok (.lmul, 1) := by decide +kernel
theorem dX6_owes_47 : decode cX6_owes 47 = .ok (.lstore 4, 2) := by decide +kernel
theorem dX6_owes_49 : decode cX6_owes 49 = .ok (.lconst 0, 1) := by decide +kernel
theorem dX6_owes_50 : decode cX6_owes 50 = .ok (.lstore 6, 2) := by decide +kernel
theorem dX6_owes_52 : decode cX6_owes 52 = .ok (.iconst 0, 1) := by decide +kernel
theorem dX6_owes_53 : decode cX6_owes 53 = .ok (.istore 8, 2) := by decide +kernel
theorem dX6_owes_55 : decode cX6_owes 55 = .ok (.iload 8, 2) := by decide +kernel
theorem dX6_owes_57 : decode cX6_owes 57 = .ok (.aload_n 0, 1) := by decide +kernel
theorem dX6_owes_58 : decode cX6_owes 58 = .ok (.getfield 116, 3) := by decide +kernel
theorem dX6_owes_61 : decode cX6_owes 61 = .ok (.if_icmp .ge 42, 3) := by decide +kernel
theorem dX6_owes_64 : decode cX6_owes 64 = .ok (.lload 6, 2) := by decide +kernel
theorem dX6_owes_66 : decode cX6_owes 66 = .ok (.iload 8, 2) := by decide +kernel
theorem dX6_owes_68 : decode cX6_owes 68 = .ok (.iload_n 2, 1) := by decide +kernel
theorem dX6_owes_69 : decode cX6_owes 69 = .ok (.if_icmp .eq 24, 3) := by decide +kernel
theorem dX6_owes_72 : decode cX6_owes 72 = .ok (.aload_n 0, 1) := by decide +kernel
theorem dX6_owes_73 : decode cX6_owes 73 = .ok (.iload 8, 2) := by decide +kernel
theorem dX6_owes_75 : decode cX6_owes 75 = .ok (.iload_n 3, 1) := by decide +kernel
theorem dX6_owes_76 : decode cX6_owes 76 = .ok (.invokevirtual 119, 3) := by decide +kernel
theorem dX6_owes_79 : decode cX6_owes 79 = .ok (.ifCond .eq 14, 3) := by decide +kernel
theorem dX6_owes_82 : decode cX6_owes 82 = .ok (.aload_n 0, 1) := by decide +kernel
theorem dX6_owes_83 : decode cX6_owes 83 = .ok (.iload 8, 2) := by decide +kernel
theorem dX6_owes_85 : decode cX6_owes 85 = .ok (.iload_n 3, 1) := by decide +kernel
theorem dX6_owes_86 : decode cX6_owes 86 = .ok (.invokevirtual 158, 3) := by decide +kernel
theorem dX6_owes_89 : decode cX6_owes 89 = .ok (.i2l, 1) := by decide +kernel
theorem dX6_owes_90 : decode cX6_owes 90 = .ok (.goto 4, 3) := by decide +kernel
theorem dX6_owes_93 : decode cX6_owes 93 = .ok (.lconst 0, 1) := by decide +kernel
theorem dX6_owes_94 : decode cX6_owes 94 = .ok (.ladd, 1) := by decide +kernel
theorem dX6_owes_95 : decode cX6_owes 95 = .ok (.lstore 6, 2) := by decide +kernel
theorem dX6_owes_97 : decode cX6_owes 97 = .ok (.iinc 8 1, 3) := by decide +kernel
theorem dX6_owes_100 : decode cX6_owes 100 = .ok (.goto (-45), 3) := by decide +kernel
theorem dX6_owes_103 : decode cX6_owes 103 = .ok (.lload 4, 2) := by decide +kernel
theorem dX6_owes_105 : decode cX6_owes 105 = .ok (.lstore 8, 2) := by decide +kernel
theorem dX6_owes_107 : decode cX6_owes 107 = .ok (.iconst 0, 1) := by decide +kernel
theorem dX6_owes_108 : decode cX6_owes 108 = .ok (.istore 10, 2) := by decide +kernel
theorem dX6_owes_110 : decode cX6_owes 110 = .ok (.iload 10, 2) := by decide +kernel
theorem dX6_owes_112 : decode cX6_owes 112 = .ok (.aload_n 0, 1) := by decide +kernel
theorem dX6_owes_113 : decode cX6_owes 113 = .ok (.getfield 116, 3) := by decide +kernel
theorem dX6_owes_116 : decode cX6_owes 116 = .ok (.if_icmp .ge 106, 3) := by decide +kernel
theorem dX6_owes_119 : decode cX6_owes 119 = .ok (.iload 10, 2) := by decide +kernel
theorem dX6_owes_121 : decode cX6_owes 121 = .ok (.iload_n 2, 1) := by decide +kernel
theorem dX6_owes_122 : decode cX6_owes 122 = .ok (.if_icmp .eq 17, 3) := by decide +kernel
theorem dX6_owes_125 : decode cX6_owes 125 = .ok (.aload_n 0, 1) := by decide +kernel
theorem dX6_owes_126 : decode cX6_owes 126 = .ok (.iload 10, 2) := by decide +kernel
theorem dX6_owes_128 : decode cX6_owes 128 = .ok (.iload_n 3, 1) := by decide +kernel
theorem dX6_owes_129 : decode cX6_owes 129 = .ok (.invokevirtual 119, 3) := by decide +kernel
theorem dX6_owes_132 : decode cX6_owes 132 = .ok (.ifCond .eq 7, 3) := by decide +kernel
theorem dX6_owes_135 : decode cX6_owes 135 = .ok (.iconst 1, 1) := by decide +kernel
theorem dX6_owes_136 : decode cX6_owes 136 = .ok (.goto 4, 3) := by decide +kernel
theorem dX6_owes_139 : decode cX6_owes 139 = .ok (.iconst 0, 1) := by decide +kernel
theorem dX6_owes_140 : decode cX6_owes 140 = .ok (.istore 11, 2) := by decide +kernel
theorem dX6_owes_142 : decode cX6_owes 142 = .ok (.aload_n 0, 1) := by decide +kernel
theorem dX6_owes_143 : decode cX6_owes 143 = .ok (.getfield 85, 3) := by decide +kernel
theorem dX6_owes_146 : decode cX6_owes 146 = .ok (.iload 10, 2) := by decide +kernel
theorem dX6_owes_148 : decode cX6_owes 148 = .ok (.iload 11, 2) := by decide +kernel
theorem dX6_owes_150 : decode cX6_owes 150 = .ok (.ifCond .eq 20, 3) := by decide +kernel
theorem dX6_owes_153 : decode cX6_owes 153 = .ok (.lload 4, 2) := by decide +kernel
theorem dX6_owes_155 : decode cX6_owes 155 = .ok (.aload_n 0, 1) := by decide +kernel
theorem dX6_owes_156 : decode cX6_owes 156 = .ok (.iload 10, 2) := by decide +kernel
theorem dX6_owes_158 : decode cX6_owes 158 = .ok (.iload_n 3, 1) := by decide +kernel
theorem dX6_owes_159 : decode cX6_owes 159 = .ok (.invokevirtual 158, 3) := by decide +kernel
theorem dX6_owes_162 : decode cX6_owes 162 = .ok (.i2l, 1) := by decide +kernel
theorem dX6_owes_163 : decode cX6_owes 163 = .ok (.lmul, 1) := by decide +kernel
theorem dX6_owes_164 : decode cX6_owes 164 = .ok (.lload 6, 2) := by decide +kernel
theorem dX6_owes_166 : decode cX6_owes 166 = .ok (.ldiv, 1) := by decide +kernel
theorem dX6_owes_167 : decode cX6_owes 167 = .ok (.goto 4, 3) := by decide +kernel
theorem dX6_owes_170 : decode cX6_owes 170 = .ok (.lconst 0, 1) := by decide +kernel
theorem dX6_owes_171 : decode cX6_owes 171 = .ok (.lastore, 1) := by decide +kernel
theorem dX6_owes_172 : decode cX6_owes 172 = .ok (.aload_n 0, 1) := by decide +kernel
theorem dX6_owes_173 : decode cX6_owes 173 = .ok (.getfield 89, 3) := by decide +kernel
theorem dX6_owes_176 : decode cX6_owes 176 = .ok (.iload 10, 2) := by decide +kernel
theorem dX6_owes_178 : decode cX6_owes 178 = .ok (.iload 11, 2) := by decide +kernel
theorem dX6_owes_180 : decode cX6_owes 180 = .ok (.ifCond .eq 20, 3) := by decide +kernel
theorem dX6_owes_183 : decode cX6_owes 183 = .ok (.lload 4, 2) := by decide +kernel
theorem dX6_owes_185 : decode cX6_owes 185 = .ok (.aload_n 0, 1) := by decide +kernel
theorem dX6_owes_186 : decode cX6_owes 186 = .ok (.iload 10, 2) := by decide +kernel
theorem dX6_owes_188 : decode cX6_owes 188 = .ok (.iload_n 3, 1) := by decide +kernel
theorem dX6_owes_189 : decode cX6_owes 189 = .ok (.invokevirtual 158, 3) := by decide +kernel
theorem dX6_owes_192 : decode cX6_owes 192 = .ok (.i2l, 1) := by decide +kernel
theorem dX6_owes_193 : decode cX6_owes 193 = .ok (.lmul, 1) := by decide +kernel
theorem dX6_owes_194 : decode cX6_owes 194 = .ok (.lload 6, 2) := by decide +kernel
theorem dX6_owes_196 : decode cX6_owes 196 = .ok (.lrem, 1) := by decide +kernel
theorem dX6_owes_197 : decode cX6_owes 197 = .ok (.goto 6, 3) := by decide +kernel
theorem dX6_owes_200 : decode cX6_owes 200 = .ok (.ldc2_w 176, 3) := by decide +kernel
theorem dX6_owes_203 : decode cX6_owes 203 = .ok (.lastore, 1) := by decide +kernel
theorem dX6_owes_204 : decode cX6_owes 204 = .ok (.lload 8, 2) := by decide +kernel
theorem dX6_owes_206 : decode cX6_owes 206 = .ok (.aload_n 0, 1) := by decide +kernel
theorem dX6_owes_207 : decode cX6_owes 207 = .ok (.getfield 85, 3) := by decide +kernel
theorem dX6_owes_210 : decode cX6_owes 210 = .ok (.iload 10, 2) := by decide +kernel
theorem dX6_owes_212 : decode cX6_owes 212 = .ok (.laload, 1) := by decide +kernel
theorem dX6_owes_213 : decode cX6_owes 213 = .ok (.lsub, 1) := by decide +kernel
theorem dX6_owes_214 : decode cX6_owes 214 = .ok (.lstore 8, 2) := by decide +kernel
theorem dX6_owes_216 : decode cX6_owes 216 = .ok (.iinc 10 1, 3) := by decide +kernel
theorem dX6_owes_219 : decode cX6_owes 219 = .ok (.goto (-109), 3) := by decide +kernel
theorem dX6_owes_222 : decode cX6_owes 222 = .ok (.lload 6, 2) := by decide +kernel
theorem dX6_owes_224 : decode cX6_owes 224 = .ok (.lconst 0, 1) := by decide +kernel
theorem dX6_owes_225 : decode cX6_owes 225 = .ok (.lcmp, 1) := by decide +kernel
theorem dX6_owes_226 : decode cX6_owes 226 = .ok (.ifCond .le 88, 3) := by decide +kernel
theorem dX6_owes_229 : decode cX6_owes 229 = .ok (.lload 8, 2) := by decide +kernel
theorem dX6_owes_231 : decode cX6_owes 231 = .ok (.lconst 0, 1) := by decide +kernel
theorem dX6_owes_232 : decode cX6_owes 232 = .ok (.lcmp, 1) := by decide +kernel
theorem dX6_owes_233 : decode cX6_owes 233 = .ok (.ifCond .le 81, 3) := by decide +kernel
theorem dX6_owes_236 : decode cX6_owes 236 = .ok (.iconst 0, 1) := by decide +kernel
theorem dX6_owes_237 : decode cX6_owes 237 = .ok (.istore 10, 2) := by decide +kernel
theorem dX6_owes_239 : decode cX6_owes 239 = .ok (.iconst 1, 1) := by decide +kernel
theorem dX6_owes_240 : decode cX6_owes 240 = .ok (.istore 11, 2) := by decide +kernel
theorem dX6_owes_242 : decode cX6_owes 242 = .ok (.iload 11, 2) := by decide +kernel
theorem dX6_owes_244 : decode cX6_owes 244 = .ok (.aload_n 0, 1) := by decide +kernel
theorem dX6_owes_245 : decode cX6_owes 245 = .ok (.getfield 116, 3) := by decide +kernel
theorem dX6_owes_248 : decode cX6_owes 248 = .ok (.if_icmp .ge 36, 3) := by decide +kernel
theorem dX6_owes_251 : decode cX6_owes 251 = .ok (.aload_n 0, 1) := by decide +kernel
theorem dX6_owes_252 : decode cX6_owes 252 = .ok (.getfield 89, 3) := by decide +kernel
theorem dX6_owes_255 : decode cX6_owes 255 = .ok (.iload 11, 2) := by decide +kernel
theorem dX6_owes_257 : decode cX6_owes 257 = .ok (.laload, 1) := by decide +kernel
theorem dX6_owes_258 : decode cX6_owes 258 = .ok (.aload_n 0, 1) := by decide +kernel
theorem dX6_owes_259 : decode cX6_owes 259 = .ok (.getfield 89, 3) := by decide +kernel
theorem dX6_owes_262 : decode cX6_owes 262 = .ok (.iload 10, 2) := by decide +kernel
theorem dX6_owes_264 : decode cX6_owes 264 = .ok (.laload, 1) := by decide +kernel
theorem dX6_owes_265 : decode cX6_owes 265 = .ok (.lcmp, 1) := by decide +kernel
theorem dX6_owes_266 : decode cX6_owes 266 = .ok (.ifCond .le 8, 3) := by decide +kernel
theorem dX6_owes_269 : decode cX6_owes 269 = .ok (.iload 11, 2) := by decide +kernel
theorem dX6_owes_271 : decode cX6_owes 271 = .ok (.goto 5, 3) := by decide +kernel
theorem dX6_owes_274 : decode cX6_owes 274 = .ok (.iload 10, 2) := by decide +kernel
theorem dX6_owes_276 : decode cX6_owes 276 = .ok (.istore 10, 2) := by decide +kernel
theorem dX6_owes_278 : decode cX6_owes 278 = .ok (.iinc 11 1, 3) := by decide +kernel
theorem dX6_owes_281 : decode cX6_owes 281 = .ok (.goto (-39), 3) := by decide +kernel
theorem dX6_owes_284 : decode cX6_owes 284 = .ok (.aload_n 0, 1) := by decide +kernel
theorem dX6_owes_285 : decode cX6_owes 285 = .ok (.getfield 85, 3) := by decide +kernel
theorem dX6_owes_288 : decode cX6_owes 288 = .ok (.iload 10, 2) := by decide +kernel
theorem dX6_owes_290 : decode cX6_owes 290 = .ok (.dup2, 1) := by decide +kernel
theorem dX6_owes_291 : decode cX6_owes 291 = .ok (.laload, 1) := by decide +kernel
theorem dX6_owes_292 : decode cX6_owes 292 = .ok (.lconst 1, 1) := by decide +kernel
theorem dX6_owes_293 : decode cX6_owes 293 = .ok (.ladd, 1) := by decide +kernel
theorem dX6_owes_294 : decode cX6_owes 294 = .ok (.lastore, 1) := by decide +kernel
theorem dX6_owes_295 : decode cX6_owes 295 = .ok (.aload_n 0, 1) := by decide +kernel
theorem dX6_owes_296 : decode cX6_owes 296 = .ok (.getfield 89, 3) := by decide +kernel
theorem dX6_owes_299 : decode cX6_owes 299 = .ok (.iload 10, 2) := by decide +kernel
theorem dX6_owes_301 : decode cX6_owes 301 = .ok (.ldc2_w 176, 3) := by decide +kernel
theorem dX6_owes_304 : decode cX6_owes 304 = .ok (.lastore, 1) := by decide +kernel
theorem dX6_owes_305 : decode cX6_owes 305 = .ok (.lload 8, 2) := by decide +kernel
theorem dX6_owes_307 : decode cX6_owes 307 = .ok (.lconst 1, 1) := by decide +kernel
theorem dX6_owes_308 : decode cX6_owes 308 = .ok (.lsub, 1) := by decide +kernel
theorem dX6_owes_309 : decode cX6_owes 309 = .ok (.lstore 8, 2) := by decide +kernel
theorem dX6_owes_311 : decode cX6_owes 311 = .ok (.goto (-89), 3) := by decide +kernel
theorem dX6_owes_314 : decode cX6_owes 314 = .ok (.aload_n 0, 1) := by decide +kernel
theorem dX6_owes_315 : decode cX6_owes 315 = .ok (.getfield 85, 3) := by decide +kernel
theorem dX6_owes_318 : decode cX6_owes 318 = .ok (.iload_n 1, 1) := by decide +kernel
theorem dX6_owes_319 : decode cX6_owes 319 = .ok (.laload, 1) := by decide +kernel
theorem dX6_owes_320 : decode cX6_owes 320 = .ok (.l2i, 1) := by decide +kernel
theorem dX6_owes_321 : decode cX6_owes 321 = .ok (.ireturn, 1) := by decide +kernel
set_option maxRecDepth 20000 in
theorem ggX6_many_X6_has : GoodIn wsX6_many wsX6_has := goodIn_r _ [7, 8, 9, 10, 6, 11, 12, 13, 14, 15, 16, 17, 18, 19, 20, 21, 22, 23, 24, 25, 26, 27, 28, 29, 30, 31, 32, 33, 34, 35, 36, 37, 38, 39, 40, 41, 42, 43, 44, 45, 46, 47, 48, 49, 50, 51, 52, 53, 54, 55, 56, 57, 58, 59, 60, 61, 62, 63, 64, 65, 66, 67, 68] (by decide +kernel) (by decide +kernel)
set_option maxRecDepth 20000 in
theorem gX6_many_X6_has : GoodIn wsX6_many (wsV RX6 119 RX6 yX6_has wsX6_has) := goodIn_app (goodIn_of _ (by decide +kernel)) ggX6_many_X6_has
theorem dX6_many_0 : decode cX6_many 0 = .ok (.iconst 0, 1) := by decide +kernel
theorem dX6_many_1 : decode cX6_many 1 = .ok (.istore_n 3, 1) := by decide +kernel
theorem dX6_many_2 : decode cX6_many 2 = .ok (.iconst 0, 1) := by decide +kernel
theorem dX6_many_3 : decode cX6_many 3 = .ok (.istore 4, 2) := by decide +kernel
theorem dX6_many_5 : decode cX6_many 5 = .ok (.iload 4, 2) := by decide +kernel
theorem dX6_many_7 : decode cX6_many 7 = .ok (.aload_n 0, 1) := by decide +kernel
theorem dX6_many_8 : decode cX6_many 8 = .ok (.getfield 116, 3) := by decide +kernel
theorem dX6_many_11 : decode cX6_many 11 = .ok (.if_icmp .ge 41, 3) := by decide +kernel
theorem dX6_many_14 : decode cX6_many 14 = .ok (.iload_n 3, 1) := by decide +kernel
theorem dX6_many_15 : decode cX6_many 15 = .ok (.aload_n 0, 1) := by decide +kernel
theorem dX6_many_16 : decode cX6_many 16 = .ok (.iload 4, 2) := by decide +kernel
theorem dX6_many_18 : decode cX6_many 18 = .ok (.iload_n 1, 1) := by decide +kernel
theorem dX6_many_19 : decode cX6_many 19 = .ok (.invokevirtual 119, 3) := by decide +kernel
theorem dX6_many_22 : decode cX6_many 22 = .ok (.ifCond .eq 21, 3) := by decide +kernel
theorem dX6_many_25 : decode cX6_many 25 = .ok (.iload_n 2, 1) := by decide +kernel
theorem dX6_many_26 : decode cX6_many 26 = .ok (.ifCond .ne 13, 3) := by decide +kernel
theorem dX6_many_29 : decode cX6_many 29 = .ok (.aload_n 0, 1) := by decide +kernel
theorem dX6_many_30 : decode cX6_many 30 = .ok (.getfield 77, 3) := by decide +kernel
theorem dX6_many_33 : decode cX6_many 33 = .ok (.iload 4, 2) := by decide +kernel
theorem dX6_many_35 : decode cX6_many 35 = .ok (.baload, 1) := by decide +kernel
theorem dX6_many_36 : decode cX6_many 36 = .ok (.ifCond .ne 7, 3) := by decide +kernel
theorem dX6_many_39 : decode cX6_many 39 = .ok (.iconst 1, 1) := by decide +kernel
theorem dX6_many_40 : decode cX6_many 40 = .ok (.goto 4, 3) := by decide +kernel
theorem dX6_many_43 : decode cX6_many 43 = .ok (.iconst 0, 1) := by decide +kernel
theorem dX6_many_44 : decode cX6_many 44 = .ok (.iadd, 1) := by decide +kernel
theorem dX6_many_45 : decode cX6_many 45 = .ok (.istore_n 3, 1) := by decide +kernel
theorem dX6_many_46 : decode cX6_many 46 = .ok (.iinc 4 1, 3) := by decide +kernel
theorem dX6_many_49 : decode cX6_many 49 = .ok (.goto (-44), 3) := by decide +kernel
theorem dX6_many_52 : decode cX6_many 52 = .ok (.iload_n 3, 1) := by decide +kernel
theorem dX6_many_53 : decode cX6_many 53 = .ok (.ireturn, 1) := by decide +kernel
theorem dX6_round_0 : decode cX6_round 0 = .ok (.iconst 0, 1) := by decide +kernel
theorem dX6_round_1 : decode cX6_round 1 = .ok (.istore_n 1, 1) := by decide +kernel
theorem dX6_round_2 : decode cX6_round 2 = .ok (.iload_n 1, 1) := by decide +kernel
theorem dX6_round_3 : decode cX6_round 3 = .ok (.bipush 30, 2) := by decide +kernel
theorem dX6_round_5 : decode cX6_round 5 = .ok (.if_icmp .ge 16, 3) := by decide +kernel
theorem dX6_round_8 : decode cX6_round 8 = .ok (.aload_n 0, 1) := by decide +kernel
theorem dX6_round_9 : decode cX6_round 9 = .ok (.getfield 77, 3) := by decide +kernel
theorem dX6_round_12 : decode cX6_round 12 = .ok (.iload_n 1, 1) := by decide +kernel
theorem dX6_round_13 : decode cX6_round 13 = .ok (.iconst 0, 1) := by decide +kernel
theorem dX6_round_14 : decode cX6_round 14 = .ok (.bastore, 1) := by decide +kernel
theorem dX6_round_15 : decode cX6_round 15 = .ok (.iinc 1 1, 3) := by decide +kernel
theorem dX6_round_18 : decode cX6_round 18 = .ok (.goto (-16), 3) := by decide +kernel
theorem dX6_round_21 : decode cX6_round 21 = .ok (.aload_n 0, 1) := by decide +kernel
theorem dX6_round_22 : decode cX6_round 22 = .ok (.iconst 0, 1) := by decide +kernel
theorem dX6_round_23 : decode cX6_round 23 = .ok (.putfield 178, 3) := by decide +kernel
theorem dX6_round_26 : decode cX6_round 26 = .ok (.return_, 1) := by decide +kernel
set_option maxRecDepth 20000 in
theorem ggX6_visit_X6_isDay : GoodIn wsX6_visit wsX6_isDay := goodIn_r _ [10, 11, 12, 9, 13] (by decide +kernel) (by decide +kernel)
set_option maxRecDepth 20000 in
theorem gX6_visit_X6_isDay : GoodIn wsX6_visit (va_wsS RX6 99 yX6_isDay wsX6_isDay) := goodIn_app (goodIn_of _ (by decide +kernel)) ggX6_visit_X6_isDay
set_option maxRecDepth 20000 in
theorem ggX6_visit_X6_many : GoodIn wsX6_visit wsX6_many := goodIn_r _ [17, 4, 5, 18, 19, 20, 9, 21, 22, 23, 24, 25, 26, 27, 28, 29, 30, 31, 32, 33, 34, 35, 36, 37, 38, 39, 40, 41, 42, 43, 11, 12, 13, 44, 45, 46, 47, 52, 53, 54, 55, 56, 57, 58, 59, 60, 61, 62, 63, 64, 65, 66, 67, 68, 69, 70, 71, 72, 73, 74, 75, 76, 77, 78, 79, 80, 81, 82, 83] (by decide +kernel) (by decide +kernel)
set_option maxRecDepth 20000 in
theorem gX6_visit_X6_many : GoodIn wsX6_visit (wsV RX6 181 RX6 yX6_many wsX6_many) := goodIn_app (goodIn_of _ (by decide +kernel)) ggX6_visit_X6_many
set_option maxRecDepth 20000 in
theorem ggX6_visit_X6_round : GoodIn wsX6_visit wsX6_round := goodIn_r _ [51, 5, 6, 52, 53, 54, 55, 56, 57, 58, 59, 60, 61, 62, 63, 64, 65, 66, 67, 68, 69, 70, 71, 72, 73, 74, 75, 76, 77, 78, 79, 80, 81, 82, 83] (by decide +kernel) (by decide +kernel)
set_option maxRecDepth 20000 in
theorem gX6_visit_X6_round : GoodIn wsX6_visit (wsV RX6 185 RX6 yX6_round wsX6_round) := goodIn_app (goodIn_of _ (by decide +kernel)) ggX6_visit_X6_round
set_option maxRecDepth 20000 in
theorem ggX6_visit_X6_has : GoodIn wsX6_visit wsX6_has := goodIn_r _ [21, 22, 23, 24, 9, 25, 26, 27, 28, 29, 30, 31, 32, 33, 34, 35, 36, 37, 38, 39, 40, 41, 42, 43, 11, 12, 13, 44, 45, 46, 47, 52, 53, 54, 55, 56, 57, 58, 59, 60, 61, 62, 63, 64, 65, 66, 67, 68, 69, 70, 71, 72, 73, 74, 75, 76, 77, 78, 79, 80, 81, 82, 83] (by decide +kernel) (by decide +kernel)
set_option maxRecDepth 20000 in
theorem gX6_visit_X6_has : GoodIn wsX6_visit (wsV RX6 119 RX6 yX6_has wsX6_has) := goodIn_app (goodIn_of _ (by decide +kernel)) ggX6_visit_X6_has
theorem dX6_visit_0 : decode cX6_visit 0 = .ok (.iload_n 1, 1) := by decide +kernel
theorem dX6_visit_1 : decode cX6_visit 1 = .ok (.invokestatic 99, 3) := by decide +kernel
theorem dX6_visit_4 : decode cX6_visit 4 = .ok (.ifCond .ne 5, 3) := by decide +kernel
theorem dX6_visit_7 : decode cX6_visit 7 = .ok (.iconst (-1), 1) := by decide +kernel
theorem dX6_visit_8 : decode cX6_visit 8 = .ok (.ireturn, 1) := by decide +kernel
theorem dX6_visit_9 : decode cX6_visit 9 = .ok (.aload_n 0, 1) := by decide +kernel
theorem dX6_visit_10 : decode cX6_visit 10 = .ok (.iload_n 1, 1) := by decide +kernel
theorem dX6_visit_11 : decode cX6_visit 11 = .ok (.iconst 1, 1) := by decide +kernel
theorem dX6_visit_12 : decode cX6_visit 12 = .ok (.invokevirtual 181, 3) := by decide +kernel
theorem dX6_visit_15 : decode cX6_visit 15 = .ok (.ifCond .ne 6, 3) := by decide +kernel
theorem dX6_visit_18 : decode cX6_visit 18 = .ok (.bipush (-2), 2) := by decide +kernel
theorem dX6_visit_20 : decode cX6_visit 20 = .ok (.ireturn, 1) := by decide +kernel
theorem dX6_visit_21 : decode cX6_visit 21 = .ok (.aload_n 0, 1) := by decide +kernel
theorem dX6_visit_22 : decode cX6_visit 22 = .ok (.iload_n 1, 1) := by decide +kernel
theorem dX6_visit_23 : decode cX6_visit 23 = .ok (.iconst 0, 1) := by decide +kernel
theorem dX6_visit_24 : decode cX6_visit 24 = .ok (.invokevirtual 181, 3) := by decide +kernel
theorem dX6_visit_27 : decode cX6_visit 27 = .ok (.ifCond .ne 7, 3) := by decide +kernel
theorem dX6_visit_30 : decode cX6_visit 30 = .ok (.aload_n 0, 1) := by decide +kernel
theorem dX6_visit_31 : decode cX6_visit 31 = .ok (.invokevirtual 185, 3) := by decide +kernel
theorem dX6_visit_34 : decode cX6_visit 34 = .ok (.aload_n 0, 1) := by decide +kernel
theorem dX6_visit_35 : decode cX6_visit 35 = .ok (.aload_n 0, 1) := by decide +kernel
theorem dX6_visit_36 : decode cX6_visit 36 = .ok (.getfield 81, 3) := by decide +kernel
theorem dX6_visit_39 : decode cX6_visit 39 = .ok (.ldc2_w 188, 3) := by decide +kernel
theorem dX6_visit_42 : decode cX6_visit 42 = .ok (.lmul, 1) := by decide +kernel
theorem dX6_visit_43 : decode cX6_visit 43 = .ok (.ldc2_w 190, 3) := by decide +kernel
theorem dX6_visit_46 : decode cX6_visit 46 = .ok (.lrem, 1) := by decide +kernel
theorem dX6_visit_47 : decode cX6_visit 47 = .ok (.putfield 81, 3) := by decide +kernel
theorem dX6_visit_50 : decode cX6_visit 50 = .ok (.aload_n 0, 1) := by decide +kernel
theorem dX6_visit_51 : decode cX6_visit 51 = .ok (.getfield 81, 3) := by decide +kernel
theorem dX6_visit_54 : decode cX6_visit 54 = .ok (.aload_n 0, 1) := by decide +kernel
theorem dX6_visit_55 : decode cX6_visit 55 = .ok (.iload_n 1, 1) := by decide +kernel
theorem dX6_visit_56 : decode cX6_visit 56 = .ok (.iconst 0, 1) := by decide +kernel
theorem dX6_visit_57 : decode cX6_visit 57 = .ok (.invokevirtual 181, 3) := by decide +kernel
theorem dX6_visit_60 : decode cX6_visit 60 = .ok (.i2l, 1) := by decide +kernel
theorem dX6_visit_61 : decode cX6_visit 61 = .ok (.lrem, 1) := by decide +kernel
theorem dX6_visit_62 : decode cX6_visit 62 = .ok (.l2i, 1) := by decide +kernel
theorem dX6_visit_63 : decode cX6_visit 63 = .ok (.istore_n 2, 1) := by decide +kernel
theorem dX6_visit_64 : decode cX6_visit 64 = .ok (.iconst (-1), 1) := by decide +kernel
theorem dX6_visit_65 : decode cX6_visit 65 = .ok (.istore_n 3, 1) := by decide +kernel
theorem dX6_visit_66 : decode cX6_visit 66 = .ok (.iconst 0, 1) := by decide +kernel
theorem dX6_visit_67 : decode cX6_visit 67 = .ok (.istore 4, 2) := by decide +kernel
theorem dX6_visit_69 : decode cX6_visit 69 = .ok (.iload 4, 2) := by decide +kernel
theorem dX6_visit_71 : decode cX6_visit 71 = .ok (.aload_n 0, 1) := by decide +kernel
theorem dX6_visit_72 : decode cX6_visit 72 = .ok (.getfield 116, 3) := by decide +kernel
theorem dX6_visit_75 : decode cX6_visit 75 = .ok (.if_icmp .ge 47, 3) := by decide +kernel
theorem dX6_visit_78 : decode cX6_visit 78 = .ok (.iload_n 3, 1) := by decide +kernel
theorem dX6_visit_79 : decode cX6_visit 79 = .ok (.ifCond .ge 43, 3) := by decide +kernel
theorem dX6_visit_82 : decode cX6_visit 82 = .ok (.aload_n 0, 1) := by decide +kernel
theorem dX6_visit_83 : decode cX6_visit 83 = .ok (.iload 4, 2) := by decide +kernel
theorem dX6_visit_85 : decode cX6_visit 85 = .ok (.iload_n 1, 1) := by decide +kernel
theorem dX6_visit_86 : decode cX6_visit 86 = .ok (.invokevirtual 119, 3) := by decide +kernel
theorem dX6_visit_89 : decode cX6_visit 89 = .ok (.ifCond .eq 27, 3) := by decide +kernel
theorem dX6_visit_92 : decode cX6_visit 92 = .ok (.aload_n 0, 1) := by decide +kernel
theorem dX6_visit_93 : decode cX6_visit 93 = .ok (.getfield 77, 3) := by decide +kernel
theorem dX6_visit_96 : decode cX6_visit 96 = .ok (.iload 4, 2) := by decide +kernel
theorem dX6_visit_98 : decode cX6_visit 98 = .ok (.baload, 1) := by decide +kernel
theorem dX6_visit_99 : decode cX6_visit 99 = .ok (.ifCond .ne 17, 3) := by decide +kernel
theorem dX6_visit_102 : decode cX6_visit 102 = .ok (.iload_n 2, 1) := by decide +kernel
theorem dX6_visit_103 : decode cX6_visit 103 = .ok (.ifCond .ne 8, 3) := by decide +kernel
theorem dX6_visit_106 : decode cX6_visit 106 = .ok (.iload 4, 2) := by decide +kernel
theorem dX6_visit_108 : decode cX6_visit 108 = .ok (.goto 4, 3) := by decide +kernel
theorem dX6_visit_111 : decode cX6_visit 111 = .ok (.iconst (-1), 1) := by decide +kernel
theorem dX6_visit_112 : decode cX6_visit 112 = .ok (.istore_n 3, 1) := by decide +kernel
theorem dX6_visit_113 : decode cX6_visit 113 = .ok (.iinc 2 (-1), 3) := by decide +kernel
theorem dX6_visit_116 : decode cX6_visit 116 = .ok (.iinc 4 1, 3) := by decide +kernel
theorem dX6_visit_119 : decode cX6_visit 119 = .ok (.goto (-50), 3) := by decide +kernel
theorem dX6_visit_122 : decode cX6_visit 122 = .ok (.aload_n 0, 1) := by decide +kernel
theorem dX6_visit_123 : decode cX6_visit 123 = .ok (.getfield 77, 3) := by decide +kernel
theorem dX6_visit_126 : decode cX6_visit 126 = .ok (.iload_n 3, 1) := by decide +kernel
theorem dX6_visit_127 : decode cX6_visit 127 = .ok (.iconst 1, 1) := by decide +kernel
theorem dX6_visit_128 : decode cX6_visit 128 = .ok (.bastore, 1) := by decide +kernel
theorem dX6_visit_129 : decode cX6_visit 129 = .ok (.aload_n 0, 1) := by decide +kernel
theorem dX6_visit_130 : decode cX6_visit 130 = .ok (.dup, 1) := by decide +kernel
theorem dX6_visit_131 : decode cX6_visit 131 = .ok (.getfield 178, 3) := by decide +kernel
theorem dX6_visit_134 : decode cX6_visit 134 = .ok (.iconst 1, 1) := by decide +kernel
theorem dX6_visit_135 : decode cX6_visit 135 = .ok (.iadd, 1) := by decide +kernel
theorem dX6_visit_136 : decode cX6_visit 136 = .ok (.putfield 178, 3) := by decide +kernel
theorem dX6_visit_139 : decode cX6_visit 139 = .ok (.iload_n 3, 1) := by decide +kernel
theorem dX6_visit_140 : decode cX6_visit 140 = .ok (.ireturn, 1) := by decide +kernel
set_option maxRecDepth 20000 in
theorem ggX6_seed_X6_in : GoodIn wsX6_seed wsX6_in := goodIn_r _ [6] (by decide +kernel) (by decide +kernel)
set_option maxRecDepth 20000 in
theorem gX6_seed_X6_in : GoodIn wsX6_seed (va_wsS RX6 92 yX6_in wsX6_in) := goodIn_app (goodIn_of _ (by decide +kernel)) ggX6_seed_X6_in
set_option maxRecDepth 20000 in
theorem ggX6_seed_X6_round : GoodIn wsX6_seed wsX6_round := goodIn_r _ [10, 11, 12, 13, 14, 15, 16, 17, 18, 19, 20, 21, 22, 23, 24, 25, 26, 27, 28, 29, 30, 31, 32, 33, 34, 35, 36, 37, 38, 39, 40, 41, 42, 43, 44] (by decide +kernel) (by decide +kernel)
set_option maxRecDepth 20000 in
theorem gX6_seed_X6_round : GoodIn wsX6_seed (wsV RX6 185 RX6 yX6_round wsX6_round) := goodIn_app (goodIn_of _ (by decide +kernel)) ggX6_seed_X6_round
theorem dX6_seed_0 : decode cX6_seed 0 = .ok (.iload_n 1, 1) := by decide +kernel
theorem dX6_seed_1 : decode cX6_seed 1 = .ok (.iconst 1, 1) := by decide +kernel
theorem dX6_seed_2 : decode cX6_seed 2 = .ok (.ldc 192, 2) := by decide +kernel
theorem dX6_seed_4 : decode cX6_seed 4 = .ok (.invokestatic 92, 3) := by decide +kernel
theorem dX6_seed_7 : decode cX6_seed 7 = .ok (.ifCond .ne 5, 3) := by decide +kernel
theorem dX6_seed_10 : decode cX6_seed 10 = .ok (.iconst (-1), 1) := by decide +kernel
theorem dX6_seed_11 : decode cX6_seed 11 = .ok (.ireturn, 1) := by decide +kernel
theorem dX6_seed_12 : decode cX6_seed 12 = .ok (.aload_n 0, 1) := by decide +kernel
theorem dX6_seed_13 : decode cX6_seed 13 = .ok (.iload_n 1, 1) := by decide +kernel
theorem dX6_seed_14 : decode cX6_seed 14 = .ok (.i2l, 1) := by decide +kernel
theorem dX6_seed_15 : decode cX6_seed 15 = .ok (.putfield 81, 3) := by decide +kernel
theorem dX6_seed_18 : decode cX6_seed 18 = .ok (.aload_n 0, 1) := by decide +kernel
theorem dX6_seed_19 : decode cX6_seed 19 = .ok (.invokevirtual 185, 3) := by decide +kernel
theorem dX6_seed_22 : decode cX6_seed 22 = .ok (.iconst 0, 1) := by decide +kernel
theorem dX6_seed_23 : decode cX6_seed 23 = .ok (.ireturn, 1) := by decide +kernel
theorem dX6_count_0 : decode cX6_count 0 = .ok (.iload_n 1, 1) := by decide +kernel
theorem dX6_count_1 : decode cX6_count 1 = .ok (.tableswitch 69 0 5 #[39, 44, 49, 54, 59, 64], 39) := by decide +kernel
theorem dX6_count_40 : decode cX6_count 40 = .ok (.aload_n 0, 1) := by decide +kernel
theorem dX6_count_41 : decode cX6_count 41 = .ok (.getfield 116, 3) := by decide +kernel
theorem dX6_count_44 : decode cX6_count 44 = .ok (.ireturn, 1) := by decide +kernel
theorem dX6_count_45 : decode cX6_count 45 = .ok (.aload_n 0, 1) := by decide +kernel
theorem dX6_count_46 : decode cX6_count 46 = .ok (.getfield 106, 3) := by decide +kernel
theorem dX6_count_49 : decode cX6_count 49 = .ok (.ireturn, 1) := by decide +kernel
theorem dX6_count_50 : decode cX6_count 50 = .ok (.aload_n 0, 1) := by decide +kernel
theorem dX6_count_51 : decode cX6_count 51 = .ok (.getfield 96, 3) := by decide +kernel
theorem dX6_count_54 : decode cX6_count 54 = .ok (.ireturn, 1) := by decide +kernel
theorem dX6_count_55 : decode cX6_count 55 = .ok (.aload_n 0, 1) := by decide +kernel
theorem dX6_count_56 : decode cX6_count 56 = .ok (.getfield 113, 3) := by decide +kernel
theorem dX6_count_59 : decode cX6_count 59 = .ok (.ireturn, 1) := by decide +kernel
theorem dX6_count_60 : decode cX6_count 60 = .ok (.aload_n 0, 1) := by decide +kernel
theorem dX6_count_61 : decode cX6_count 61 = .ok (.getfield 178, 3) := by decide +kernel
theorem dX6_count_64 : decode cX6_count 64 = .ok (.ireturn, 1) := by decide +kernel
theorem dX6_count_65 : decode cX6_count 65 = .ok (.aload_n 0, 1) := by decide +kernel
theorem dX6_count_66 : decode cX6_count 66 = .ok (.getfield 130, 3) := by decide +kernel
theorem dX6_count_69 : decode cX6_count 69 = .ok (.ireturn, 1) := by decide +kernel
theorem dX6_count_70 : decode cX6_count 70 = .ok (.iconst (-1), 1) := by decide +kernel
theorem dX6_count_71 : decode cX6_count 71 = .ok (.ireturn, 1) := by decide +kernel
theorem dJ9_max_7cf53_0 : decode cJ9_max_7cf53 0 = .ok (.iload_n 0, 1) := by decide +kernel
theorem dJ9_max_7cf53_1 : decode cJ9_max_7cf53 1 = .ok (.iload_n 1, 1) := by decide +kernel
theorem dJ9_max_7cf53_2 : decode cJ9_max_7cf53 2 = .ok (.if_icmp .lt 7, 3) := by decide +kernel
theorem dJ9_max_7cf53_5 : decode cJ9_max_7cf53 5 = .ok (.iload_n 0, 1) := by decide +kernel
theorem dJ9_max_7cf53_6 : decode cJ9_max_7cf53 6 = .ok (.goto 4, 3) := by decide +kernel
theorem dJ9_max_7cf53_9 : decode cJ9_max_7cf53 9 = .ok (.iload_n 1, 1) := by decide +kernel
theorem dJ9_max_7cf53_10 : decode cJ9_max_7cf53 10 = .ok (.ireturn, 1) := by decide +kernel
theorem dJ9_min_7cf53_0 : decode cJ9_min_7cf53 0 = .ok (.iload_n 0, 1) := by decide +kernel
theorem dJ9_min_7cf53_1 : decode cJ9_min_7cf53 1 = .ok (.iload_n 1, 1) := by decide +kernel
theorem dJ9_min_7cf53_2 : decode cJ9_min_7cf53 2 = .ok (.if_icmp .gt 7, 3) := by decide +kernel
theorem dJ9_min_7cf53_5 : decode cJ9_min_7cf53 5 = .ok (.iload_n 0, 1) := by decide +kernel
theorem dJ9_min_7cf53_6 : decode cJ9_min_7cf53 6 = .ok (.goto 4, 3) := by decide +kernel
theorem dJ9_min_7cf53_9 : decode cJ9_min_7cf53 9 = .ok (.iload_n 1, 1) := by decide +kernel
theorem dJ9_min_7cf53_10 : decode cJ9_min_7cf53 10 = .ok (.ireturn, 1) := by decide +kernel
theorem dJxa1e45_init_da8c8_0 : decode cJxa1e45_init_da8c8 0 = .ok (.aload_n 0, 1) := by decide +kernel
theorem dJxa1e45_init_da8c8_1 : decode cJxa1e45_init_da8c8 1 = .ok (.invokespecial 1, 3) := by decide +kernel
theorem dJxa1e45_init_da8c8_4 : decode cJxa1e45_init_da8c8 4 = .ok (.return_, 1) := by decide +kernel
set_option maxRecDepth 20000 in
theorem ggJxc12de_init_da8c8_Jxa1e45_init_da8c8 : GoodIn wsJxc12de_init_da8c8 wsJxa1e45_init_da8c8 := goodIn_r _ [5, 6, 7, 8] (by decide +kernel) (by decide +kernel)
set_option maxRecDepth 20000 in
theorem gJxc12de_init_da8c8_Jxa1e45_init_da8c8 : GoodIn wsJxc12de_init_da8c8 (wsJxa1e45_init_da8c8) := ggJxc12de_init_da8c8_Jxa1e45_init_da8c8
theorem dJxc12de_init_da8c8_0 : decode cJxc12de_init_da8c8 0 = .ok (.aload_n 0, 1) := by decide +kernel
theorem dJxc12de_init_da8c8_1 : decode cJxc12de_init_da8c8 1 = .ok (.invokespecial 1, 3) := by decide +kernel
theorem dJxc12de_init_da8c8_4 : decode cJxc12de_init_da8c8 4 = .ok (.aload_n 0, 1) := by decide +kernel
theorem dJxc12de_init_da8c8_5 : decode cJxc12de_init_da8c8 5 = .ok (.iconst 0, 1) := by decide +kernel
theorem dJxc12de_init_da8c8_6 : decode cJxc12de_init_da8c8 6 = .ok (.putfield 7, 3) := by decide +kernel
theorem dJxc12de_init_da8c8_9 : decode cJxc12de_init_da8c8 9 = .ok (.return_, 1) := by decide +kernel
set_option maxRecDepth 20000 in
theorem ggJx4a65c_init_da8c8_Jxc12de_init_da8c8 : GoodIn wsJx4a65c_init_da8c8 wsJxc12de_init_da8c8 := goodIn_r _ [6, 7, 8, 9, 10, 11, 12, 13, 14, 15, 16, 17] (by decide +kernel) (by decide +kernel)
set_option maxRecDepth 20000 in
theorem gJx4a65c_init_da8c8_Jxc12de_init_da8c8 : GoodIn wsJx4a65c_init_da8c8 (wsJxc12de_init_da8c8) := ggJx4a65c_init_da8c8_Jxc12de_init_da8c8
theorem dJx4a65c_init_da8c8_0 : decode cJx4a65c_init_da8c8 0 = .ok (.aload_n 0, 1) := by decide +kernel
theorem dJx4a65c_init_da8c8_1 : decode cJx4a65c_init_da8c8 1 = .ok (.invokespecial 1, 3) := by decide +kernel
theorem dJx4a65c_init_da8c8_4 : decode cJx4a65c_init_da8c8 4 = .ok (.aload_n 0, 1) := by decide +kernel
theorem dJx4a65c_init_da8c8_5 : decode cJx4a65c_init_da8c8 5 = .ok (.getstatic 39, 3) := by decide +kernel
theorem dJx4a65c_init_da8c8_8 : decode cJx4a65c_init_da8c8 8 = .ok (.putfield 9, 3) := by decide +kernel
theorem dJx4a65c_init_da8c8_11 : decode cJx4a65c_init_da8c8 11 = .ok (.return_, 1) := by decide +kernel
set_option maxRecDepth 20000 in
theorem ggJx4a65c_grow_92f84_J8_newLength_cabcc : GoodIn wsJx4a65c_grow_92f84 wsJ8_newLength_cabcc := goodIn_r _ [11, 12, 4, 5, 6, 13, 14, 15, 10, 16] (by decide +kernel) (by decide +kernel)
set_option maxRecDepth 20000 in
theorem gJx4a65c_grow_92f84_J8_newLength_cabcc : GoodIn wsJx4a65c_grow_92f84 (va_wsS RJx4a65c 73 yJ8_newLength_cabcc wsJ8_newLength_cabcc) := goodIn_app (goodIn_of _ (by decide +kernel)) ggJx4a65c_grow_92f84_J8_newLength_cabcc
set_option maxRecDepth 20000 in
theorem ggJx4a65c_grow_92f84_J7_copyOf_1904c : GoodIn wsJx4a65c_grow_92f84 wsJ7_copyOf_1904c := goodIn_r _ [20, 21, 22, 23, 24, 25, 26, 19, 27, 28, 29, 30, 31, 5, 32, 33, 34, 35, 36] (by decide +kernel) (by decide +kernel)
set_option maxRecDepth 20000 in
theorem gJx4a65c_grow_92f84_J7_copyOf_1904c : GoodIn wsJx4a65c_grow_92f84 (va_wsS RJx4a65c 66 yJ7_copyOf_1904c wsJ7_copyOf_1904c) := goodIn_app (goodIn_of _ (by decide +kernel)) ggJx4a65c_grow_92f84_J7_copyOf_1904c
theorem dJx4a65c_grow_92f84_0 : decode cJx4a65c_grow_92f84 0 = .ok (.aload_n 0, 1) := by decide +kernel
theorem dJx4a65c_grow_92f84_1 : decode cJx4a65c_grow_92f84 1 = .ok (.getfield 9, 3) := by decide +kernel
theorem dJx4a65c_grow_92f84_4 : decode cJx4a65c_grow_92f84 4 = .ok (.arraylength, 1) := by decide +kernel
theorem dJx4a65c_grow_92f84_5 : decode cJx4a65c_grow_92f84 5 = .ok (.istore_n 2, 1) := by decide +kernel
theorem dJx4a65c_grow_92f84_6 : decode cJx4a65c_grow_92f84 6 = .ok (.iload_n 2, 1) := by decide +kernel
theorem dJx4a65c_grow_92f84_7 : decode cJx4a65c_grow_92f84 7 = .ok (.ifCond .gt 13, 3) := by decide +kernel
theorem dJx4a65c_grow_92f84_10 : decode cJx4a65c_grow_92f84 10 = .ok (.aload_n 0, 1) := by decide +kernel
theorem dJx4a65c_grow_92f84_11 : decode cJx4a65c_grow_92f84 11 = .ok (.getfield 9, 3) := by decide +kernel
theorem dJx4a65c_grow_92f84_14 : decode cJx4a65c_grow_92f84 14 = .ok (.getstatic 39, 3) := by decide +kernel
theorem dJx4a65c_grow_92f84_17 : decode cJx4a65c_grow_92f84 17 = .ok (.if_acmp .eq 28, 3) := by decide +kernel
theorem dJx4a65c_grow_92f84_20 : decode cJx4a65c_grow_92f84 20 = .ok (.iload_n 2, 1) := by decide +kernel
theorem dJx4a65c_grow_92f84_21 : decode cJx4a65c_grow_92f84 21 = .ok (.iload_n 1, 1) := by decide +kernel
theorem dJx4a65c_grow_92f84_22 : decode cJx4a65c_grow_92f84 22 = .ok (.iload_n 2, 1) := by decide +kernel
theorem dJx4a65c_grow_92f84_23 : decode cJx4a65c_grow_92f84 23 = .ok (.isub, 1) := by decide +kernel
theorem dJx4a65c_grow_92f84_24 : decode cJx4a65c_grow_92f84 24 = .ok (.iload_n 2, 1) := by decide +kernel
theorem dJx4a65c_grow_92f84_25 : decode cJx4a65c_grow_92f84 25 = .ok (.iconst 1, 1) := by decide +kernel
theorem dJx4a65c_grow_92f84_26 : decode cJx4a65c_grow_92f84 26 = .ok (.ishr, 1) := by decide +kernel
theorem dJx4a65c_grow_92f84_27 : decode cJx4a65c_grow_92f84 27 = .ok (.invokestatic 73, 3) := by decide +kernel
theorem dJx4a65c_grow_92f84_30 : decode cJx4a65c_grow_92f84 30 = .ok (.istore_n 3, 1) := by decide +kernel
theorem dJx4a65c_grow_92f84_31 : decode cJx4a65c_grow_92f84 31 = .ok (.aload_n 0, 1) := by decide +kernel
theorem dJx4a65c_grow_92f84_32 : decode cJx4a65c_grow_92f84 32 = .ok (.aload_n 0, 1) := by decide +kernel
theorem dJx4a65c_grow_92f84_33 : decode cJx4a65c_grow_92f84 33 = .ok (.getfield 9, 3) := by decide +kernel
theorem dJx4a65c_grow_92f84_36 : decode cJx4a65c_grow_92f84 36 = .ok (.iload_n 3, 1) := by decide +kernel
theorem dJx4a65c_grow_92f84_37 : decode cJx4a65c_grow_92f84 37 = .ok (.invokestatic 66, 3) := by decide +kernel
theorem dJx4a65c_grow_92f84_40 : decode cJx4a65c_grow_92f84 40 = .ok (.dup_x1, 1) := by decide +kernel
theorem dJx4a65c_grow_92f84_41 : decode cJx4a65c_grow_92f84 41 = .ok (.putfield 9, 3) := by decide +kernel
theorem dJx4a65c_grow_92f84_44 : decode cJx4a65c_grow_92f84 44 = .ok (.areturn, 1) := by decide +kernel
theorem dJx4a65c_grow_92f84_45 : decode cJx4a65c_grow_92f84 45 = .ok (.aload_n 0, 1) := by decide +kernel
theorem dJx4a65c_grow_92f84_46 : decode cJx4a65c_grow_92f84 46 = .ok (.bipush 10, 2) := by decide +kernel
theorem dJx4a65c_grow_92f84_48 : decode cJx4a65c_grow_92f84 48 = .ok (.iload_n 1, 1) := by decide +kernel
theorem dJx4a65c_grow_92f84_49 : decode cJx4a65c_grow_92f84 49 = .ok (.invokestatic 79, 3) := by decide +kernel
theorem dJx4a65c_grow_92f84_52 : decode cJx4a65c_grow_92f84 52 = .ok (.anewarray 7, 3) := by decide +kernel
theorem dJx4a65c_grow_92f84_55 : decode cJx4a65c_grow_92f84 55 = .ok (.dup_x1, 1) := by decide +kernel
theorem dJx4a65c_grow_92f84_56 : decode cJx4a65c_grow_92f84 56 = .ok (.putfield 9, 3) := by decide +kernel
theorem dJx4a65c_grow_92f84_59 : decode cJx4a65c_grow_92f84 59 = .ok (.areturn, 1) := by decide +kernel
set_option maxRecDepth 20000 in
theorem ggJx4a65c_grow_d5877_Jx4a65c_grow_92f84 : GoodIn wsJx4a65c_grow_d5877 wsJx4a65c_grow_92f84 := goodIn_r _ [6, 7, 8, 9, 10, 11, 12, 13, 14, 15, 16, 17, 18, 19, 20, 21, 22, 23, 24, 25, 26, 27, 28, 29, 30, 31, 32, 33, 34, 35, 36, 37, 38, 39, 40, 41, 42, 43, 44, 45] (by decide +kernel) (by decide +kernel)
set_option maxRecDepth 20000 in
theorem gJx4a65c_grow_d5877_Jx4a65c_grow_92f84 : GoodIn wsJx4a65c_grow_d5877 (wsV RJx4a65c 69 RJx4a65c yJx4a65c_grow_92f84 wsJx4a65c_grow_92f84) := goodIn_app (goodIn_of _ (by decide +kernel)) ggJx4a65c_grow_d5877_Jx4a65c_grow_92f84
theorem dJx4a65c_grow_d5877_0 : decode cJx4a65c_grow_d5877 0 = .ok (.aload_n 0, 1) := by decide +kernel
theorem dJx4a65c_grow_d5877_1 : decode cJx4a65c_grow_d5877 1 = .ok (.aload_n 0, 1) := by decide +kernel
theorem dJx4a65c_grow_d5877_2 : decode cJx4a65c_grow_d5877 2 = .ok (.getfield 48, 3) := by decide +kernel
theorem dJx4a65c_grow_d5877_5 : decode cJx4a65c_grow_d5877 5 = .ok (.iconst 1, 1) := by decide +kernel
theorem dJx4a65c_grow_d5877_6 : decode cJx4a65c_grow_d5877 6 = .ok (.iadd, 1) := by decide +kernel
theorem dJx4a65c_grow_d5877_7 : decode cJx4a65c_grow_d5877 7 = .ok (.invokevirtual 69, 3) := by decide +kernel
theorem dJx4a65c_grow_d5877_10 : decode cJx4a65c_grow_d5877 10 = .ok (.areturn, 1) := by decide +kernel
theorem dJx4a65c_size_8abf5_0 : decode cJx4a65c_size_8abf5 0 = .ok (.aload_n 0, 1) := by decide +kernel
theorem dJx4a65c_size_8abf5_1 : decode cJx4a65c_size_8abf5 1 = .ok (.getfield 48, 3) := by decide +kernel
theorem dJx4a65c_size_8abf5_4 : decode cJx4a65c_size_8abf5 4 = .ok (.ireturn, 1) := by decide +kernel
theorem dJx4a65c_isEmpty_aae02_0 : decode cJx4a65c_isEmpty_aae02 0 = .ok (.aload_n 0, 1) := by decide +kernel
theorem dJx4a65c_isEmpty_aae02_1 : decode cJx4a65c_isEmpty_aae02 1 = .ok (.getfield 48, 3) := by decide +kernel
theorem dJx4a65c_isEmpty_aae02_4 : decode cJx4a65c_isEmpty_aae02 4 = .ok (.ifCond .ne 7, 3) := by decide +kernel
theorem dJx4a65c_isEmpty_aae02_7 : decode cJx4a65c_isEmpty_aae02 7 = .ok (.iconst 1, 1) := by decide +kernel
theorem dJx4a65c_isEmpty_aae02_8 : decode cJx4a65c_isEmpty_aae02 8 = .ok (.goto 4, 3) := by decide +kernel
theorem dJx4a65c_isEmpty_aae02_11 : decode cJx4a65c_isEmpty_aae02 11 = .ok (.iconst 0, 1) := by decide +kernel
theorem dJx4a65c_isEmpty_aae02_12 : decode cJx4a65c_isEmpty_aae02 12 = .ok (.ireturn, 1) := by decide +kernel
theorem dJx4a65c_elementData_915e3_0 : decode cJx4a65c_elementData_915e3 0 = .ok (.aload_n 0, 1) := by decide +kernel
theorem dJx4a65c_elementData_915e3_1 : decode cJx4a65c_elementData_915e3 1 = .ok (.getfield 9, 3) := by decide +kernel
theorem dJx4a65c_elementData_915e3_4 : decode cJx4a65c_elementData_915e3 4 = .ok (.iload_n 1, 1) := by decide +kernel
theorem dJx4a65c_elementData_915e3_5 : decode cJx4a65c_elementData_915e3 5 = .ok (.aaload, 1) := by decide +kernel
theorem dJx4a65c_elementData_915e3_6 : decode cJx4a65c_elementData_915e3 6 = .ok (.areturn, 1) := by decide +kernel
set_option maxRecDepth 20000 in
theorem ggJx4a65c_get_915e3_J15_checkIndex_7cf53 : GoodIn wsJx4a65c_get_915e3 wsJ15_checkIndex_7cf53 := goodIn_r _ [5, 6, 7, 8, 9] (by decide +kernel) (by decide +kernel)
set_option maxRecDepth 20000 in
theorem gJx4a65c_get_915e3_J15_checkIndex_7cf53 : GoodIn wsJx4a65c_get_915e3 (va_wsS RJx4a65c 118 yJ15_checkIndex_7cf53 wsJ15_checkIndex_7cf53) := goodIn_app (goodIn_of _ (by decide +kernel)) ggJx4a65c_get_915e3_J15_checkIndex_7cf53
set_option maxRecDepth 20000 in
theorem ggJx4a65c_get_915e3_Jx4a65c_elementData_915e3 : GoodIn wsJx4a65c_get_915e3 wsJx4a65c_elementData_915e3 := goodIn_r _ [14, 15, 16, 17, 18] (by decide +kernel) (by decide +kernel)
set_option maxRecDepth 20000 in
theorem gJx4a65c_get_915e3_Jx4a65c_elementData_915e3 : GoodIn wsJx4a65c_get_915e3 (wsV RJx4a65c 123 RJx4a65c yJx4a65c_elementData_915e3 wsJx4a65c_elementData_915e3) := goodIn_app (goodIn_of _ (by decide +kernel)) ggJx4a65c_get_915e3_Jx4a65c_elementData_915e3
theorem dJx4a65c_get_915e3_0 : decode cJx4a65c_get_915e3 0 = .ok (.iload_n 1, 1) := by decide +kernel
theorem dJx4a65c_get_915e3_1 : decode cJx4a65c_get_915e3 1 = .ok (.aload_n 0, 1) := by decide +kernel
theorem dJx4a65c_get_915e3_2 : decode cJx4a65c_get_915e3 2 = .ok (.getfield 48, 3) := by decide +kernel
theorem dJx4a65c_get_915e3_5 : decode cJx4a65c_get_915e3 5 = .ok (.invokestatic 118, 3) := by decide +kernel
theorem dJx4a65c_get_915e3_8 : decode cJx4a65c_get_915e3 8 = .ok (.pop, 1) := by decide +kernel
theorem dJx4a65c_get_915e3_9 : decode cJx4a65c_get_915e3 9 = .ok (.aload_n 0, 1) := by decide +kernel
theorem dJx4a65c_get_915e3_10 : decode cJx4a65c_get_915e3 10 = .ok (.iload_n 1, 1) := by decide +kernel
theorem dJx4a65c_get_915e3_11 : decode cJx4a65c_get_915e3 11 = .ok (.invokevirtual 123, 3) := by decide +kernel
theorem dJx4a65c_get_915e3_14 : decode cJx4a65c_get_915e3 14 = .ok (.areturn, 1) := by decide +kernel
set_option maxRecDepth 20000 in
theorem ggJx4a65c_add_72be8_Jx4a65c_grow_d5877 : GoodIn wsJx4a65c_add_72be8 wsJx4a65c_grow_d5877 := goodIn_r _ [6, 1, 7, 8, 9, 5, 10, 11, 12, 13, 14, 15, 16, 17, 18, 19, 20, 21, 22, 23, 24, 25, 26, 27, 28, 29, 30, 31, 32, 33, 34, 35, 36, 37, 38, 39, 40, 41, 42, 43, 44, 45, 46, 47, 48, 49] (by decide +kernel) (by decide +kernel)
set_option maxRecDepth 20000 in
theorem gJx4a65c_add_72be8_Jx4a65c_grow_d5877 : GoodIn wsJx4a65c_add_72be8 (wsV RJx4a65c 129 RJx4a65c yJx4a65c_grow_d5877 wsJx4a65c_grow_d5877) := goodIn_app (goodIn_of _ (by decide +kernel)) ggJx4a65c_add_72be8_Jx4a65c_grow_d5877
theorem dJx4a65c_add_72be8_0 : decode cJx4a65c_add_72be8 0 = .ok (.iload_n 3, 1) := by decide +kernel
theorem dJx4a65c_add_72be8_1 : decode cJx4a65c_add_72be8 1 = .ok (.aload_n 2, 1) := by decide +kernel
theorem dJx4a65c_add_72be8_2 : decode cJx4a65c_add_72be8 2 = .ok (.arraylength, 1) := by decide +kernel
theorem dJx4a65c_add_72be8_3 : decode cJx4a65c_add_72be8 3 = .ok (.if_icmp .ne 8, 3) := by decide +kernel
theorem dJx4a65c_add_72be8_6 : decode cJx4a65c_add_72be8 6 = .ok (.aload_n 0, 1) := by decide +kernel
theorem dJx4a65c_add_72be8_7 : decode cJx4a65c_add_72be8 7 = .ok (.invokevirtual 129, 3) := by decide +kernel
theorem dJx4a65c_add_72be8_10 : decode cJx4a65c_add_72be8 10 = .ok (.astore_n 2, 1) := by decide +kernel
theorem dJx4a65c_add_72be8_11 : decode cJx4a65c_add_72be8 11 = .ok (.aload_n 2, 1) := by decide +kernel
theorem dJx4a65c_add_72be8_12 : decode cJx4a65c_add_72be8 12 = .ok (.iload_n 3, 1) := by decide +kernel
theorem dJx4a65c_add_72be8_13 : decode cJx4a65c_add_72be8 13 = .ok (.aload_n 1, 1) := by decide +kernel
theorem dJx4a65c_add_72be8_14 : decode cJx4a65c_add_72be8 14 = .ok (.aastore, 1) := by decide +kernel
theorem dJx4a65c_add_72be8_15 : decode cJx4a65c_add_72be8 15 = .ok (.aload_n 0, 1) := by decide +kernel
theorem dJx4a65c_add_72be8_16 : decode cJx4a65c_add_72be8 16 = .ok (.iload_n 3, 1) := by decide +kernel
theorem dJx4a65c_add_72be8_17 : decode cJx4a65c_add_72be8 17 = .ok (.iconst 1, 1) := by decide +kernel
theorem dJx4a65c_add_72be8_18 : decode cJx4a65c_add_72be8 18 = .ok (.iadd, 1) := by decide +kernel
theorem dJx4a65c_add_72be8_19 : decode cJx4a65c_add_72be8 19 = .ok (.putfield 48, 3) := by decide +kernel
theorem dJx4a65c_add_72be8_22 : decode cJx4a65c_add_72be8 22 = .ok (.return_, 1) := by decide +kernel
set_option maxRecDepth 20000 in
theorem ggJx4a65c_add_9ea2d_Jx4a65c_add_72be8 : GoodIn wsJx4a65c_add_9ea2d wsJx4a65c_add_72be8 := goodIn_r _ [9, 4, 10, 11, 12, 8, 13, 14, 15, 16, 17, 3, 18, 19, 20, 21, 22, 23, 24, 25, 26, 27, 28, 29, 30, 31, 32, 33, 34, 35, 36, 37, 38, 39, 40, 41, 42, 43, 44, 45, 46, 47, 48, 49, 50, 51, 52, 53, 54, 55] (by decide +kernel) (by decide +kernel)
set_option maxRecDepth 20000 in
theorem gJx4a65c_add_9ea2d_Jx4a65c_add_72be8 : GoodIn wsJx4a65c_add_9ea2d (wsV RJx4a65c 131 RJx4a65c yJx4a65c_add_72be8 wsJx4a65c_add_72be8) := goodIn_app (goodIn_of _ (by decide +kernel)) ggJx4a65c_add_9ea2d_Jx4a65c_add_72be8
theorem dJx4a65c_add_9ea2d_0 : decode cJx4a65c_add_9ea2d 0 = .ok (.aload_n 0, 1) := by decide +kernel
theorem dJx4a65c_add_9ea2d_1 : decode cJx4a65c_add_9ea2d 1 = .ok (.dup, 1) := by decide +kernel
theorem dJx4a65c_add_9ea2d_2 : decode cJx4a65c_add_9ea2d 2 = .ok (.getfield 63, 3) := by decide +kernel
theorem dJx4a65c_add_9ea2d_5 : decode cJx4a65c_add_9ea2d 5 = .ok (.iconst 1, 1) := by decide +kernel
theorem dJx4a65c_add_9ea2d_6 : decode cJx4a65c_add_9ea2d 6 = .ok (.iadd, 1) := by decide +kernel
theorem dJx4a65c_add_9ea2d_7 : decode cJx4a65c_add_9ea2d 7 = .ok (.putfield 63, 3) := by decide +kernel
theorem dJx4a65c_add_9ea2d_10 : decode cJx4a65c_add_9ea2d 10 = .ok (.aload_n 0, 1) := by decide +kernel
theorem dJx4a65c_add_9ea2d_11 : decode cJx4a65c_add_9ea2d 11 = .ok (.aload_n 1, 1) := by decide +kernel
theorem dJx4a65c_add_9ea2d_12 : decode cJx4a65c_add_9ea2d 12 = .ok (.aload_n 0, 1) := by decide +kernel
theorem dJx4a65c_add_9ea2d_13 : decode cJx4a65c_add_9ea2d 13 = .ok (.getfield 9, 3) := by decide +kernel
theorem dJx4a65c_add_9ea2d_16 : decode cJx4a65c_add_9ea2d 16 = .ok (.aload_n 0, 1) := by decide +kernel
theorem dJx4a65c_add_9ea2d_17 : decode cJx4a65c_add_9ea2d 17 = .ok (.getfield 48, 3) := by decide +kernel
theorem dJx4a65c_add_9ea2d_20 : decode cJx4a65c_add_9ea2d 20 = .ok (.invokevirtual 131, 3) := by decide +kernel
theorem dJx4a65c_add_9ea2d_23 : decode cJx4a65c_add_9ea2d 23 = .ok (.iconst 1, 1) := by decide +kernel
theorem dJx4a65c_add_9ea2d_24 : decode cJx4a65c_add_9ea2d 24 = .ok (.ireturn, 1) := by decide +kernel
set_option maxRecDepth 20000 in
theorem ggJ7_copyOf_1904c_J7_copyOf_6403c : GoodIn wsJ7_copyOf_1904c wsJ7_copyOf_6403c := goodIn_r _ [8, 9, 10, 11, 12, 13, 14, 15, 16, 17, 18] (by decide +kernel) (by decide +kernel)
set_option maxRecDepth 20000 in
theorem gJ7_copyOf_1904c_J7_copyOf_6403c : GoodIn wsJ7_copyOf_1904c (va_wsS RJ7 300 yJ7_copyOf_6403c wsJ7_copyOf_6403c) := goodIn_app (goodIn_of _ (by decide +kernel)) ggJ7_copyOf_1904c_J7_copyOf_6403c
theorem dJ7_copyOf_1904c_0 : decode cJ7_copyOf_1904c 0 = .ok (.aload_n 0, 1) := by decide +kernel
theorem dJ7_copyOf_1904c_1 : decode cJ7_copyOf_1904c 1 = .ok (.iload_n 1, 1) := by decide +kernel
theorem dJ7_copyOf_1904c_2 : decode cJ7_copyOf_1904c 2 = .ok (.aload_n 0, 1) := by decide +kernel
theorem dJ7_copyOf_1904c_3 : decode cJ7_copyOf_1904c 3 = .ok (.invokevirtual 86, 3) := by decide +kernel
theorem dJ7_copyOf_1904c_6 : decode cJ7_copyOf_1904c 6 = .ok (.invokestatic 300, 3) := by decide +kernel
theorem dJ7_copyOf_1904c_9 : decode cJ7_copyOf_1904c 9 = .ok (.areturn, 1) := by decide +kernel
theorem dJ7_copyOf_6403c_0 : decode cJ7_copyOf_6403c 0 = .ok (.aload_n 2, 1) := by decide +kernel
theorem dJ7_copyOf_6403c_1 : decode cJ7_copyOf_6403c 1 = .ok (.ldc 110, 2) := by decide +kernel
theorem dJ7_copyOf_6403c_3 : decode cJ7_copyOf_6403c 3 = .ok (.if_acmp .ne 10, 3) := by decide +kernel
theorem dJ7_copyOf_6403c_6 : decode cJ7_copyOf_6403c 6 = .ok (.iload_n 1, 1) := by decide +kernel
theorem dJ7_copyOf_6403c_7 : decode cJ7_copyOf_6403c 7 = .ok (.anewarray 2, 3) := by decide +kernel
theorem dJ7_copyOf_6403c_10 : decode cJ7_copyOf_6403c 10 = .ok (.goto 14, 3) := by decide +kernel
theorem dJ7_copyOf_6403c_13 : decode cJ7_copyOf_6403c 13 = .ok (.aload_n 2, 1) := by decide +kernel
theorem dJ7_copyOf_6403c_14 : decode cJ7_copyOf_6403c 14 = .ok (.invokevirtual 90, 3) := by decide +kernel
theorem dJ7_copyOf_6403c_17 : decode cJ7_copyOf_6403c 17 = .ok (.iload_n 1, 1) := by decide +kernel
theorem dJ7_copyOf_6403c_18 : decode cJ7_copyOf_6403c 18 = .ok (.invokestatic 95, 3) := by decide +kernel
theorem dJ7_copyOf_6403c_21 : decode cJ7_copyOf_6403c 21 = .ok (.checkcast 110, 3) := by decide +kernel
theorem dJ7_copyOf_6403c_24 : decode cJ7_copyOf_6403c 24 = .ok (.astore_n 3, 1) := by decide +kernel
theorem dJ7_copyOf_6403c_25 : decode cJ7_copyOf_6403c 25 = .ok (.aload_n 0, 1) := by decide +kernel
theorem dJ7_copyOf_6403c_26 : decode cJ7_copyOf_6403c 26 = .ok (.iconst 0, 1) := by decide +kernel
theorem dJ7_copyOf_6403c_27 : decode cJ7_copyOf_6403c 27 = .ok (.aload_n 3, 1) := by decide +kernel
theorem dJ7_copyOf_6403c_28 : decode cJ7_copyOf_6403c 28 = .ok (.iconst 0, 1) := by decide +kernel
theorem dJ7_copyOf_6403c_29 : decode cJ7_copyOf_6403c 29 = .ok (.aload_n 0, 1) := by decide +kernel
theorem dJ7_copyOf_6403c_30 : decode cJ7_copyOf_6403c 30 = .ok (.arraylength, 1) := by decide +kernel
theorem dJ7_copyOf_6403c_31 : decode cJ7_copyOf_6403c 31 = .ok (.iload_n 1, 1) := by decide +kernel
theorem dJ7_copyOf_6403c_32 : decode cJ7_copyOf_6403c 32 = .ok (.invokestatic 304, 3) := by decide +kernel
theorem dJ7_copyOf_6403c_35 : decode cJ7_copyOf_6403c 35 = .ok (.invokestatic 150, 3) := by decide +kernel
theorem dJ7_copyOf_6403c_38 : decode cJ7_copyOf_6403c 38 = .ok (.aload_n 3, 1) := by decide +kernel
theorem dJ7_copyOf_6403c_39 : decode cJ7_copyOf_6403c 39 = .ok (.areturn, 1) := by decide +kernel
set_option maxRecDepth 20000 in
theorem ggJ15_checkIndex_7cf53_J3_checkIndex_8e157 : GoodIn wsJ15_checkIndex_7cf53 wsJ3_checkIndex_8e157 := goodIn_r _ [4] (by decide +kernel) (by decide +kernel)
set_option maxRecDepth 20000 in
theorem gJ15_checkIndex_7cf53_J3_checkIndex_8e157 : GoodIn wsJ15_checkIndex_7cf53 (va_wsS RJ15 105 yJ3_checkIndex_8e157 wsJ3_checkIndex_8e157) := goodIn_app (goodIn_of _ (by decide +kernel)) ggJ15_checkIndex_7cf53_J3_checkIndex_8e157
theorem dJ15_checkIndex_7cf53_0 : decode cJ15_checkIndex_7cf53 0 = .ok (.iload_n 0, 1) := by decide +kernel
theorem dJ15_checkIndex_7cf53_1 : decode cJ15_checkIndex_7cf53 1 = .ok (.iload_n 1, 1) := by decide +kernel
theorem dJ15_checkIndex_7cf53_2 : decode cJ15_checkIndex_7cf53 2 = .ok (.aconst_null, 1) := by decide +kernel
theorem dJ15_checkIndex_7cf53_3 : decode cJ15_checkIndex_7cf53 3 = .ok (.invokestatic 105, 3) := by decide +kernel
theorem dJ15_checkIndex_7cf53_6 : decode cJ15_checkIndex_7cf53 6 = .ok (.ireturn, 1) := by decide +kernel
set_option maxRecDepth 20000 in
theorem ggJ8_newLength_cabcc_J8_hugeLength_7cf53 : GoodIn wsJ8_newLength_cabcc wsJ8_hugeLength_7cf53 := goodIn_r _ [9, 5] (by decide +kernel) (by decide +kernel)
set_option maxRecDepth 20000 in
theorem gJ8_newLength_cabcc_J8_hugeLength_7cf53 : GoodIn wsJ8_newLength_cabcc (va_wsS RJ8 201 yJ8_hugeLength_7cf53 wsJ8_hugeLength_7cf53) := goodIn_app (goodIn_of _ (by decide +kernel)) ggJ8_newLength_cabcc_J8_hugeLength_7cf53
theorem dJ8_newLength_cabcc_0 : decode cJ8_newLength_cabcc 0 = .ok (.iload_n 0, 1) := by decide +kernel
theorem dJ8_newLength_cabcc_1 : decode cJ8_newLength_cabcc 1 = .ok (.iload_n 1, 1) := by decide +kernel
theorem dJ8_newLength_cabcc_2 : decode cJ8_newLength_cabcc 2 = .ok (.iload_n 2, 1) := by decide +kernel
theorem dJ8_newLength_cabcc_3 : decode cJ8_newLength_cabcc 3 = .ok (.invokestatic 194, 3) := by decide +kernel
theorem dJ8_newLength_cabcc_6 : decode cJ8_newLength_cabcc 6 = .ok (.iadd, 1) := by decide +kernel
theorem dJ8_newLength_cabcc_7 : decode cJ8_newLength_cabcc 7 = .ok (.istore_n 3, 1) := by decide +kernel
theorem dJ8_newLength_cabcc_8 : decode cJ8_newLength_cabcc 8 = .ok (.iconst 0, 1) := by decide +kernel
theorem dJ8_newLength_cabcc_9 : decode cJ8_newLength_cabcc 9 = .ok (.iload_n 3, 1) := by decide +kernel
theorem dJ8_newLength_cabcc_10 : decode cJ8_newLength_cabcc 10 = .ok (.if_icmp .ge 11, 3) := by decide +kernel
theorem dJ8_newLength_cabcc_13 : decode cJ8_newLength_cabcc 13 = .ok (.iload_n 3, 1) := by decide +kernel
theorem dJ8_newLength_cabcc_14 : decode cJ8_newLength_cabcc 14 = .ok (.ldc 200, 2) := by decide +kernel
theorem dJ8_newLength_cabcc_16 : decode cJ8_newLength_cabcc 16 = .ok (.if_icmp .gt 5, 3) := by decide +kernel
theorem dJ8_newLength_cabcc_19 : decode cJ8_newLength_cabcc 19 = .ok (.iload_n 3, 1) := by decide +kernel
theorem dJ8_newLength_cabcc_20 : decode cJ8_newLength_cabcc 20 = .ok (.ireturn, 1) := by decide +kernel
theorem dJ8_newLength_cabcc_21 : decode cJ8_newLength_cabcc 21 = .ok (.iload_n 0, 1) := by decide +kernel
theorem dJ8_newLength_cabcc_22 : decode cJ8_newLength_cabcc 22 = .ok (.iload_n 1, 1) := by decide +kernel
theorem dJ8_newLength_cabcc_23 : decode cJ8_newLength_cabcc 23 = .ok (.invokestatic 201, 3) := by decide +kernel
theorem dJ8_newLength_cabcc_26 : decode cJ8_newLength_cabcc 26 = .ok (.ireturn, 1) := by decide +kernel
theorem dJ8_hugeLength_7cf53_0 : decode cJ8_hugeLength_7cf53 0 = .ok (.iload_n 0, 1) := by decide +kernel
theorem dJ8_hugeLength_7cf53_1 : decode cJ8_hugeLength_7cf53 1 = .ok (.iload_n 1, 1) := by decide +kernel
theorem dJ8_hugeLength_7cf53_2 : decode cJ8_hugeLength_7cf53 2 = .ok (.iadd, 1) := by decide +kernel
theorem dJ8_hugeLength_7cf53_3 : decode cJ8_hugeLength_7cf53 3 = .ok (.istore_n 2, 1) := by decide +kernel
theorem dJ8_hugeLength_7cf53_4 : decode cJ8_hugeLength_7cf53 4 = .ok (.iload_n 2, 1) := by decide +kernel
theorem dJ8_hugeLength_7cf53_5 : decode cJ8_hugeLength_7cf53 5 = .ok (.ifCond .ge 44, 3) := by decide +kernel
theorem dJ8_hugeLength_7cf53_8 : decode cJ8_hugeLength_7cf53 8 = .ok (.new 204, 3) := by decide +kernel
theorem dJ8_hugeLength_7cf53_11 : decode cJ8_hugeLength_7cf53 11 = .ok (.dup, 1) := by decide +kernel
theorem dJ8_hugeLength_7cf53_12 : decode cJ8_hugeLength_7cf53 12 = .ok (.new 89, 3) := by decide +kernel
theorem dJ8_hugeLength_7cf53_15 : decode cJ8_hugeLength_7cf53 15 = .ok (.dup, 1) := by decide +kernel
theorem dJ8_hugeLength_7cf53_16 : decode cJ8_hugeLength_7cf53 16 = .ok (.invokespecial 91, 3) := by decide +kernel
theorem dJ8_hugeLength_7cf53_19 : decode cJ8_hugeLength_7cf53 19 = .ok (.ldc 206, 2) := by decide +kernel
theorem dJ8_hugeLength_7cf53_21 : decode cJ8_hugeLength_7cf53 21 = .ok (.invokevirtual 94, 3) := by decide +kernel
theorem dJ8_hugeLength_7cf53_24 : decode cJ8_hugeLength_7cf53 24 = .ok (.iload_n 0, 1) := by decide +kernel
theorem dJ8_hugeLength_7cf53_25 : decode cJ8_hugeLength_7cf53 25 = .ok (.invokevirtual 98, 3) := by decide +kernel
theorem dJ8_hugeLength_7cf53_28 : decode cJ8_hugeLength_7cf53 28 = .ok (.ldc 208, 2) := by decide +kernel
theorem dJ8_hugeLength_7cf53_30 : decode cJ8_hugeLength_7cf53 30 = .ok (.invokevirtual 94, 3) := by decide +kernel
theorem dJ8_hugeLength_7cf53_33 : decode cJ8_hugeLength_7cf53 33 = .ok (.iload_n 1, 1) := by decide +kernel
theorem dJ8_hugeLength_7cf53_34 : decode cJ8_hugeLength_7cf53 34 = .ok (.invokevirtual 98, 3) := by decide +kernel
theorem dJ8_hugeLength_7cf53_37 : decode cJ8_hugeLength_7cf53 37 = .ok (.ldc 210, 2) := by decide +kernel
theorem dJ8_hugeLength_7cf53_39 : decode cJ8_hugeLength_7cf53 39 = .ok (.invokevirtual 94, 3) := by decide +kernel
theorem dJ8_hugeLength_7cf53_42 : decode cJ8_hugeLength_7cf53 42 = .ok (.invokevirtual 101, 3) := by decide +kernel
theorem dJ8_hugeLength_7cf53_45 : decode cJ8_hugeLength_7cf53 45 = .ok (.invokespecial 212, 3) := by decide +kernel
theorem dJ8_hugeLength_7cf53_48 : decode cJ8_hugeLength_7cf53 48 = .ok (.athrow, 1) := by decide +kernel
theorem dJ8_hugeLength_7cf53_49 : decode cJ8_hugeLength_7cf53 49 = .ok (.iload_n 2, 1) := by decide +kernel
theorem dJ8_hugeLength_7cf53_50 : decode cJ8_hugeLength_7cf53 50 = .ok (.ldc 200, 2) := by decide +kernel
theorem dJ8_hugeLength_7cf53_52 : decode cJ8_hugeLength_7cf53 52 = .ok (.if_icmp .gt 6, 3) := by decide +kernel
theorem dJ8_hugeLength_7cf53_55 : decode cJ8_hugeLength_7cf53 55 = .ok (.ldc 200, 2) := by decide +kernel
theorem dJ8_hugeLength_7cf53_57 : decode cJ8_hugeLength_7cf53 57 = .ok (.ireturn, 1) := by decide +kernel
theorem dJ8_hugeLength_7cf53_58 : decode cJ8_hugeLength_7cf53 58 = .ok (.iload_n 2, 1) := by decide +kernel
theorem dJ8_hugeLength_7cf53_59 : decode cJ8_hugeLength_7cf53 59 = .ok (.ireturn, 1) := by decide +kernel
theorem dJ3_checkIndex_8e157_0 : decode cJ3_checkIndex_8e157 0 = .ok (.iload_n 0, 1) := by decide +kernel
theorem dJ3_checkIndex_8e157_1 : decode cJ3_checkIndex_8e157 1 = .ok (.ifCond .lt 8, 3) := by decide +kernel
theorem dJ3_checkIndex_8e157_4 : decode cJ3_checkIndex_8e157 4 = .ok (.iload_n 0, 1) := by decide +kernel
theorem dJ3_checkIndex_8e157_5 : decode cJ3_checkIndex_8e157 5 = .ok (.iload_n 1, 1) := by decide +kernel
theorem dJ3_checkIndex_8e157_6 : decode cJ3_checkIndex_8e157 6 = .ok (.if_icmp .lt 10, 3) := by decide +kernel
theorem dJ3_checkIndex_8e157_9 : decode cJ3_checkIndex_8e157 9 = .ok (.aload_n 2, 1) := by decide +kernel
theorem dJ3_checkIndex_8e157_10 : decode cJ3_checkIndex_8e157 10 = .ok (.iload_n 0, 1) := by decide +kernel
theorem dJ3_checkIndex_8e157_11 : decode cJ3_checkIndex_8e157 11 = .ok (.iload_n 1, 1) := by decide +kernel
theorem dJ3_checkIndex_8e157_12 : decode cJ3_checkIndex_8e157 12 = .ok (.invokestatic 95, 3) := by decide +kernel
theorem dJ3_checkIndex_8e157_15 : decode cJ3_checkIndex_8e157 15 = .ok (.athrow, 1) := by decide +kernel
theorem dJ3_checkIndex_8e157_16 : decode cJ3_checkIndex_8e157 16 = .ok (.iload_n 0, 1) := by decide +kernel
theorem dJ3_checkIndex_8e157_17 : decode cJ3_checkIndex_8e157 17 = .ok (.ireturn, 1) := by decide +kernel
