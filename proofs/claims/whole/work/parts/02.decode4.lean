theorem dX6_event_154 : decode cX6_event 154 = .ok (.getfield 65, 3) := by decide +kernel
theorem dX6_event_157 : decode cX6_event 157 = .ok (.iload 6, 2) := by decide +kernel
theorem dX6_event_159 : decode cX6_event 159 = .ok (.iload 4, 2) := by decide +kernel
theorem dX6_event_161 : decode cX6_event 161 = .ok (.iastore, 1) := by decide +kernel
theorem dX6_event_162 : decode cX6_event 162 = .ok (.aload_n 0, 1) := by decide +kernel
theorem dX6_event_163 : decode cX6_event 163 = .ok (.getfield 56, 3) := by decide +kernel
theorem dX6_event_166 : decode cX6_event 166 = .ok (.iload_n 1, 1) := by decide +kernel
theorem dX6_event_167 : decode cX6_event 167 = .ok (.dup2, 1) := by decide +kernel
theorem dX6_event_168 : decode cX6_event 168 = .ok (.iaload, 1) := by decide +kernel
theorem dX6_event_169 : decode cX6_event 169 = .ok (.iconst 1, 1) := by decide +kernel
theorem dX6_event_170 : decode cX6_event 170 = .ok (.iadd, 1) := by decide +kernel
theorem dX6_event_171 : decode cX6_event 171 = .ok (.iastore, 1) := by decide +kernel
theorem dX6_event_172 : decode cX6_event 172 = .ok (.aload_n 0, 1) := by decide +kernel
theorem dX6_event_173 : decode cX6_event 173 = .ok (.getfield 56, 3) := by decide +kernel
theorem dX6_event_176 : decode cX6_event 176 = .ok (.iload_n 1, 1) := by decide +kernel
theorem dX6_event_177 : decode cX6_event 177 = .ok (.iaload, 1) := by decide +kernel
theorem dX6_event_178 : decode cX6_event 178 = .ok (.ireturn, 1) := by decide +kernel
set_option maxRecDepth 20000 in
theorem ggX6_worth_X6_isHouse : GoodIn wsX6_worth wsX6_isHouse := goodIn_r _ [10, 11, 12, 13, 9, 14, 18, 19, 20, 21, 22, 23, 24, 25, 26, 27, 28, 29, 30, 31, 32, 33, 34, 35, 36, 37, 38, 39, 40, 41, 42, 43, 44, 45, 46, 47, 48, 49] (by decide +kernel) (by decide +kernel)
set_option maxRecDepth 20000 in
theorem gX6_worth_X6_isHouse : GoodIn wsX6_worth (wsV RX6 133 RX6 yX6_isHouse wsX6_isHouse) := goodIn_app (goodIn_of _ (by decide +kernel)) ggX6_worth_X6_isHouse
set_option maxRecDepth 20000 in
theorem ggX6_worth_X6_isDay : GoodIn wsX6_worth wsX6_isDay := goodIn_r _ [17, 12, 13, 9, 14] (by decide +kernel) (by decide +kernel)
set_option maxRecDepth 20000 in
theorem gX6_worth_X6_isDay : GoodIn wsX6_worth (va_wsS RX6 99 yX6_isDay wsX6_isDay) := goodIn_app (goodIn_of _ (by decide +kernel)) ggX6_worth_X6_isDay
set_option maxRecDepth 20000 in
theorem ggX6_worth_X6_in : GoodIn wsX6_worth wsX6_in := goodIn_r _ [14] (by decide +kernel) (by decide +kernel)
set_option maxRecDepth 20000 in
theorem gX6_worth_X6_in : GoodIn wsX6_worth (va_wsS RX6 92 yX6_in wsX6_in) := goodIn_app (goodIn_of _ (by decide +kernel)) ggX6_worth_X6_in
theorem dX6_worth_0 : decode cX6_worth 0 = .ok (.aload_n 0, 1) := by decide +kernel
theorem dX6_worth_1 : decode cX6_worth 1 = .ok (.iload_n 1, 1) := by decide +kernel
theorem dX6_worth_2 : decode cX6_worth 2 = .ok (.invokevirtual 133, 3) := by decide +kernel
theorem dX6_worth_5 : decode cX6_worth 5 = .ok (.ifCond .eq 20, 3) := by decide +kernel
theorem dX6_worth_8 : decode cX6_worth 8 = .ok (.iload_n 2, 1) := by decide +kernel
theorem dX6_worth_9 : decode cX6_worth 9 = .ok (.invokestatic 99, 3) := by decide +kernel
theorem dX6_worth_12 : decode cX6_worth 12 = .ok (.ifCond .eq 13, 3) := by decide +kernel
theorem dX6_worth_15 : decode cX6_worth 15 = .ok (.iload_n 3, 1) := by decide +kernel
theorem dX6_worth_16 : decode cX6_worth 16 = .ok (.iconst 1, 1) := by decide +kernel
theorem dX6_worth_17 : decode cX6_worth 17 = .ok (.ldc 126, 2) := by decide +kernel
theorem dX6_worth_19 : decode cX6_worth 19 = .ok (.invokestatic 92, 3) := by decide +kernel
theorem dX6_worth_22 : decode cX6_worth 22 = .ok (.ifCond .ne 5, 3) := by decide +kernel
theorem dX6_worth_25 : decode cX6_worth 25 = .ok (.iconst (-1), 1) := by decide +kernel
theorem dX6_worth_26 : decode cX6_worth 26 = .ok (.ireturn, 1) := by decide +kernel
theorem dX6_worth_27 : decode cX6_worth 27 = .ok (.aload_n 0, 1) := by decide +kernel
theorem dX6_worth_28 : decode cX6_worth 28 = .ok (.getfield 68, 3) := by decide +kernel
theorem dX6_worth_31 : decode cX6_worth 31 = .ok (.iload_n 1, 1) := by decide +kernel
theorem dX6_worth_32 : decode cX6_worth 32 = .ok (.iaload, 1) := by decide +kernel
theorem dX6_worth_33 : decode cX6_worth 33 = .ok (.bipush 8, 2) := by decide +kernel
theorem dX6_worth_35 : decode cX6_worth 35 = .ok (.if_icmp .ne 6, 3) := by decide +kernel
theorem dX6_worth_38 : decode cX6_worth 38 = .ok (.bipush (-3), 2) := by decide +kernel
theorem dX6_worth_40 : decode cX6_worth 40 = .ok (.ireturn, 1) := by decide +kernel
theorem dX6_worth_41 : decode cX6_worth 41 = .ok (.aload_n 0, 1) := by decide +kernel
theorem dX6_worth_42 : decode cX6_worth 42 = .ok (.getfield 71, 3) := by decide +kernel
theorem dX6_worth_45 : decode cX6_worth 45 = .ok (.bipush 8, 2) := by decide +kernel
theorem dX6_worth_47 : decode cX6_worth 47 = .ok (.iload_n 1, 1) := by decide +kernel
theorem dX6_worth_48 : decode cX6_worth 48 = .ok (.imul, 1) := by decide +kernel
theorem dX6_worth_49 : decode cX6_worth 49 = .ok (.aload_n 0, 1) := by decide +kernel
theorem dX6_worth_50 : decode cX6_worth 50 = .ok (.getfield 68, 3) := by decide +kernel
theorem dX6_worth_53 : decode cX6_worth 53 = .ok (.iload_n 1, 1) := by decide +kernel
theorem dX6_worth_54 : decode cX6_worth 54 = .ok (.iaload, 1) := by decide +kernel
theorem dX6_worth_55 : decode cX6_worth 55 = .ok (.iadd, 1) := by decide +kernel
theorem dX6_worth_56 : decode cX6_worth 56 = .ok (.iload_n 2, 1) := by decide +kernel
theorem dX6_worth_57 : decode cX6_worth 57 = .ok (.aload_n 0, 1) := by decide +kernel
theorem dX6_worth_58 : decode cX6_worth 58 = .ok (.getfield 53, 3) := by decide +kernel
theorem dX6_worth_61 : decode cX6_worth 61 = .ok (.iload_n 1, 1) := by decide +kernel
theorem dX6_worth_62 : decode cX6_worth 62 = .ok (.iaload, 1) := by decide +kernel
theorem dX6_worth_63 : decode cX6_worth 63 = .ok (.if_icmp .ge 12, 3) := by decide +kernel
theorem dX6_worth_66 : decode cX6_worth 66 = .ok (.aload_n 0, 1) := by decide +kernel
theorem dX6_worth_67 : decode cX6_worth 67 = .ok (.getfield 53, 3) := by decide +kernel
theorem dX6_worth_70 : decode cX6_worth 70 = .ok (.iload_n 1, 1) := by decide +kernel
theorem dX6_worth_71 : decode cX6_worth 71 = .ok (.iaload, 1) := by decide +kernel
theorem dX6_worth_72 : decode cX6_worth 72 = .ok (.goto 4, 3) := by decide +kernel
theorem dX6_worth_75 : decode cX6_worth 75 = .ok (.iload_n 2, 1) := by decide +kernel
theorem dX6_worth_76 : decode cX6_worth 76 = .ok (.iastore, 1) := by decide +kernel
theorem dX6_worth_77 : decode cX6_worth 77 = .ok (.aload_n 0, 1) := by decide +kernel
theorem dX6_worth_78 : decode cX6_worth 78 = .ok (.getfield 74, 3) := by decide +kernel
theorem dX6_worth_81 : decode cX6_worth 81 = .ok (.bipush 8, 2) := by decide +kernel
theorem dX6_worth_83 : decode cX6_worth 83 = .ok (.iload_n 1, 1) := by decide +kernel
theorem dX6_worth_84 : decode cX6_worth 84 = .ok (.imul, 1) := by decide +kernel
theorem dX6_worth_85 : decode cX6_worth 85 = .ok (.aload_n 0, 1) := by decide +kernel
theorem dX6_worth_86 : decode cX6_worth 86 = .ok (.getfield 68, 3) := by decide +kernel
theorem dX6_worth_89 : decode cX6_worth 89 = .ok (.iload_n 1, 1) := by decide +kernel
theorem dX6_worth_90 : decode cX6_worth 90 = .ok (.iaload, 1) := by decide +kernel
theorem dX6_worth_91 : decode cX6_worth 91 = .ok (.iadd, 1) := by decide +kernel
theorem dX6_worth_92 : decode cX6_worth 92 = .ok (.iload_n 3, 1) := by decide +kernel
theorem dX6_worth_93 : decode cX6_worth 93 = .ok (.iastore, 1) := by decide +kernel
theorem dX6_worth_94 : decode cX6_worth 94 = .ok (.aload_n 0, 1) := by decide +kernel
theorem dX6_worth_95 : decode cX6_worth 95 = .ok (.getfield 68, 3) := by decide +kernel
theorem dX6_worth_98 : decode cX6_worth 98 = .ok (.iload_n 1, 1) := by decide +kernel
theorem dX6_worth_99 : decode cX6_worth 99 = .ok (.dup2, 1) := by decide +kernel
theorem dX6_worth_100 : decode cX6_worth 100 = .ok (.iaload, 1) := by decide +kernel
theorem dX6_worth_101 : decode cX6_worth 101 = .ok (.iconst 1, 1) := by decide +kernel
theorem dX6_worth_102 : decode cX6_worth 102 = .ok (.iadd, 1) := by decide +kernel
theorem dX6_worth_103 : decode cX6_worth 103 = .ok (.iastore, 1) := by decide +kernel
theorem dX6_worth_104 : decode cX6_worth 104 = .ok (.aload_n 0, 1) := by decide +kernel
theorem dX6_worth_105 : decode cX6_worth 105 = .ok (.getfield 68, 3) := by decide +kernel
theorem dX6_worth_108 : decode cX6_worth 108 = .ok (.iload_n 1, 1) := by decide +kernel
theorem dX6_worth_109 : decode cX6_worth 109 = .ok (.iaload, 1) := by decide +kernel
theorem dX6_worth_110 : decode cX6_worth 110 = .ok (.ireturn, 1) := by decide +kernel
theorem dX6_counts_0 : decode cX6_counts 0 = .ok (.aload_n 0, 1) := by decide +kernel
theorem dX6_counts_1 : decode cX6_counts 1 = .ok (.getfield 62, 3) := by decide +kernel
theorem dX6_counts_4 : decode cX6_counts 4 = .ok (.iload_n 2, 1) := by decide +kernel
theorem dX6_counts_5 : decode cX6_counts 5 = .ok (.iaload, 1) := by decide +kernel
theorem dX6_counts_6 : decode cX6_counts 6 = .ok (.ifCond .ne 13, 3) := by decide +kernel
theorem dX6_counts_9 : decode cX6_counts 9 = .ok (.aload_n 0, 1) := by decide +kernel
theorem dX6_counts_10 : decode cX6_counts 10 = .ok (.getfield 59, 3) := by decide +kernel
theorem dX6_counts_13 : decode cX6_counts 13 = .ok (.iload_n 2, 1) := by decide +kernel
theorem dX6_counts_14 : decode cX6_counts 14 = .ok (.iaload, 1) := by decide +kernel
theorem dX6_counts_15 : decode cX6_counts 15 = .ok (.iload_n 3, 1) := by decide +kernel
theorem dX6_counts_16 : decode cX6_counts 16 = .ok (.if_icmp .le 5, 3) := by decide +kernel
theorem dX6_counts_19 : decode cX6_counts 19 = .ok (.iconst 0, 1) := by decide +kernel
theorem dX6_counts_20 : decode cX6_counts 20 = .ok (.ireturn, 1) := by decide +kernel
theorem dX6_counts_21 : decode cX6_counts 21 = .ok (.iconst 1, 1) := by decide +kernel
theorem dX6_counts_22 : decode cX6_counts 22 = .ok (.istore 4, 2) := by decide +kernel
theorem dX6_counts_24 : decode cX6_counts 24 = .ok (.bipush 16, 2) := by decide +kernel
theorem dX6_counts_26 : decode cX6_counts 26 = .ok (.iload_n 1, 1) := by decide +kernel
theorem dX6_counts_27 : decode cX6_counts 27 = .ok (.imul, 1) := by decide +kernel
theorem dX6_counts_28 : decode cX6_counts 28 = .ok (.istore 5, 2) := by decide +kernel
theorem dX6_counts_30 : decode cX6_counts 30 = .ok (.iload 5, 2) := by decide +kernel
theorem dX6_counts_32 : decode cX6_counts 32 = .ok (.bipush 16, 2) := by decide +kernel
theorem dX6_counts_34 : decode cX6_counts 34 = .ok (.iload_n 1, 1) := by decide +kernel
theorem dX6_counts_35 : decode cX6_counts 35 = .ok (.imul, 1) := by decide +kernel
theorem dX6_counts_36 : decode cX6_counts 36 = .ok (.aload_n 0, 1) := by decide +kernel
theorem dX6_counts_37 : decode cX6_counts 37 = .ok (.getfield 56, 3) := by decide +kernel
theorem dX6_counts_40 : decode cX6_counts 40 = .ok (.iload_n 1, 1) := by decide +kernel
theorem dX6_counts_41 : decode cX6_counts 41 = .ok (.iaload, 1) := by decide +kernel
theorem dX6_counts_42 : decode cX6_counts 42 = .ok (.iadd, 1) := by decide +kernel
theorem dX6_counts_43 : decode cX6_counts 43 = .ok (.if_icmp .ge 59, 3) := by decide +kernel
theorem dX6_counts_46 : decode cX6_counts 46 = .ok (.iload 4, 2) := by decide +kernel
theorem dX6_counts_48 : decode cX6_counts 48 = .ok (.ifCond .eq 45, 3) := by decide +kernel
theorem dX6_counts_51 : decode cX6_counts 51 = .ok (.aload_n 0, 1) := by decide +kernel
theorem dX6_counts_52 : decode cX6_counts 52 = .ok (.getfield 62, 3) := by decide +kernel
theorem dX6_counts_55 : decode cX6_counts 55 = .ok (.iload 5, 2) := by decide +kernel
theorem dX6_counts_57 : decode cX6_counts 57 = .ok (.iaload, 1) := by decide +kernel
theorem dX6_counts_58 : decode cX6_counts 58 = .ok (.iconst 1, 1) := by decide +kernel
theorem dX6_counts_59 : decode cX6_counts 59 = .ok (.if_icmp .ne 30, 3) := by decide +kernel
theorem dX6_counts_62 : decode cX6_counts 62 = .ok (.aload_n 0, 1) := by decide +kernel
theorem dX6_counts_63 : decode cX6_counts 63 = .ok (.getfield 65, 3) := by decide +kernel
theorem dX6_counts_66 : decode cX6_counts 66 = .ok (.iload 5, 2) := by decide +kernel
theorem dX6_counts_68 : decode cX6_counts 68 = .ok (.iaload, 1) := by decide +kernel
theorem dX6_counts_69 : decode cX6_counts 69 = .ok (.aload_n 0, 1) := by decide +kernel
theorem dX6_counts_70 : decode cX6_counts 70 = .ok (.getfield 65, 3) := by decide +kernel
theorem dX6_counts_73 : decode cX6_counts 73 = .ok (.iload_n 2, 1) := by decide +kernel
theorem dX6_counts_74 : decode cX6_counts 74 = .ok (.iaload, 1) := by decide +kernel
theorem dX6_counts_75 : decode cX6_counts 75 = .ok (.if_icmp .ne 14, 3) := by decide +kernel
theorem dX6_counts_78 : decode cX6_counts 78 = .ok (.aload_n 0, 1) := by decide +kernel
theorem dX6_counts_79 : decode cX6_counts 79 = .ok (.getfield 59, 3) := by decide +kernel
theorem dX6_counts_82 : decode cX6_counts 82 = .ok (.iload 5, 2) := by decide +kernel
theorem dX6_counts_84 : decode cX6_counts 84 = .ok (.iaload, 1) := by decide +kernel
theorem dX6_counts_85 : decode cX6_counts 85 = .ok (.iload_n 3, 1) := by decide +kernel
theorem dX6_counts_86 : decode cX6_counts 86 = .ok (.if_icmp .le 7, 3) := by decide +kernel
theorem dX6_counts_89 : decode cX6_counts 89 = .ok (.iconst 1, 1) := by decide +kernel
theorem dX6_counts_90 : decode cX6_counts 90 = .ok (.goto 4, 3) := by decide +kernel
theorem dX6_counts_93 : decode cX6_counts 93 = .ok (.iconst 0, 1) := by decide +kernel
theorem dX6_counts_94 : decode cX6_counts 94 = .ok (.istore 4, 2) := by decide +kernel
theorem dX6_counts_96 : decode cX6_counts 96 = .ok (.iinc 5 1, 3) := by decide +kernel
theorem dX6_counts_99 : decode cX6_counts 99 = .ok (.goto (-69), 3) := by decide +kernel
theorem dX6_counts_102 : decode cX6_counts 102 = .ok (.iload 4, 2) := by decide +kernel
theorem dX6_counts_104 : decode cX6_counts 104 = .ok (.ireturn, 1) := by decide +kernel
set_option maxRecDepth 20000 in
theorem ggX6_endedFrom_X6_counts : GoodIn wsX6_endedFrom wsX6_counts := goodIn_r _ [8, 9, 3, 2, 10, 11, 12, 13, 14, 15, 16, 17, 18, 19, 20, 21, 22, 23, 24, 25, 26, 27, 28, 29, 30, 31, 32, 33, 34, 35, 36, 37, 38, 39, 40, 41, 42] (by decide +kernel) (by decide +kernel)
set_option maxRecDepth 20000 in
theorem gX6_endedFrom_X6_counts : GoodIn wsX6_endedFrom (wsV RX6 139 RX6 yX6_counts wsX6_counts) := goodIn_app (goodIn_of _ (by decide +kernel)) ggX6_endedFrom_X6_counts
theorem dX6_endedFrom_0 : decode cX6_endedFrom 0 = .ok (.ldc 126, 2) := by decide +kernel
theorem dX6_endedFrom_2 : decode cX6_endedFrom 2 = .ok (.istore_n 3, 1) := by decide +kernel
theorem dX6_endedFrom_3 : decode cX6_endedFrom 3 = .ok (.bipush 16, 2) := by decide +kernel
theorem dX6_endedFrom_5 : decode cX6_endedFrom 5 = .ok (.iload_n 1, 1) := by decide +kernel
theorem dX6_endedFrom_6 : decode cX6_endedFrom 6 = .ok (.imul, 1) := by decide +kernel
theorem dX6_endedFrom_7 : decode cX6_endedFrom 7 = .ok (.aload_n 0, 1) := by decide +kernel
theorem dX6_endedFrom_8 : decode cX6_endedFrom 8 = .ok (.getfield 56, 3) := by decide +kernel
theorem dX6_endedFrom_11 : decode cX6_endedFrom 11 = .ok (.iload_n 1, 1) := by decide +kernel
theorem dX6_endedFrom_12 : decode cX6_endedFrom 12 = .ok (.iaload, 1) := by decide +kernel
theorem dX6_endedFrom_13 : decode cX6_endedFrom 13 = .ok (.iadd, 1) := by decide +kernel
theorem dX6_endedFrom_14 : decode cX6_endedFrom 14 = .ok (.istore 4, 2) := by decide +kernel
theorem dX6_endedFrom_16 : decode cX6_endedFrom 16 = .ok (.bipush 16, 2) := by decide +kernel
theorem dX6_endedFrom_18 : decode cX6_endedFrom 18 = .ok (.iload_n 1, 1) := by decide +kernel
theorem dX6_endedFrom_19 : decode cX6_endedFrom 19 = .ok (.imul, 1) := by decide +kernel
theorem dX6_endedFrom_20 : decode cX6_endedFrom 20 = .ok (.istore 5, 2) := by decide +kernel
theorem dX6_endedFrom_22 : decode cX6_endedFrom 22 = .ok (.iload 5, 2) := by decide +kernel
theorem dX6_endedFrom_24 : decode cX6_endedFrom 24 = .ok (.iload 4, 2) := by decide +kernel
theorem dX6_endedFrom_26 : decode cX6_endedFrom 26 = .ok (.if_icmp .ge 130, 3) := by decide +kernel
theorem dX6_endedFrom_29 : decode cX6_endedFrom 29 = .ok (.iconst 0, 1) := by decide +kernel
theorem dX6_endedFrom_30 : decode cX6_endedFrom 30 = .ok (.istore 6, 2) := by decide +kernel
theorem dX6_endedFrom_32 : decode cX6_endedFrom 32 = .ok (.bipush 16, 2) := by decide +kernel
theorem dX6_endedFrom_34 : decode cX6_endedFrom 34 = .ok (.iload_n 1, 1) := by decide +kernel
theorem dX6_endedFrom_35 : decode cX6_endedFrom 35 = .ok (.imul, 1) := by decide +kernel
theorem dX6_endedFrom_36 : decode cX6_endedFrom 36 = .ok (.istore 7, 2) := by decide +kernel
theorem dX6_endedFrom_38 : decode cX6_endedFrom 38 = .ok (.iload 7, 2) := by decide +kernel
theorem dX6_endedFrom_40 : decode cX6_endedFrom 40 = .ok (.iload 4, 2) := by decide +kernel
theorem dX6_endedFrom_42 : decode cX6_endedFrom 42 = .ok (.if_icmp .ge 79, 3) := by decide +kernel
theorem dX6_endedFrom_45 : decode cX6_endedFrom 45 = .ok (.aload_n 0, 1) := by decide +kernel
theorem dX6_endedFrom_46 : decode cX6_endedFrom 46 = .ok (.iload_n 1, 1) := by decide +kernel
theorem dX6_endedFrom_47 : decode cX6_endedFrom 47 = .ok (.iload 5, 2) := by decide +kernel
theorem dX6_endedFrom_49 : decode cX6_endedFrom 49 = .ok (.iload_n 2, 1) := by decide +kernel
theorem dX6_endedFrom_50 : decode cX6_endedFrom 50 = .ok (.invokevirtual 139, 3) := by decide +kernel
theorem dX6_endedFrom_53 : decode cX6_endedFrom 53 = .ok (.ifCond .eq 68, 3) := by decide +kernel
theorem dX6_endedFrom_56 : decode cX6_endedFrom 56 = .ok (.iload 6, 2) := by decide +kernel
theorem dX6_endedFrom_58 : decode cX6_endedFrom 58 = .ok (.aload_n 0, 1) := by decide +kernel
theorem dX6_endedFrom_59 : decode cX6_endedFrom 59 = .ok (.iload_n 1, 1) := by decide +kernel
theorem dX6_endedFrom_60 : decode cX6_endedFrom 60 = .ok (.iload 7, 2) := by decide +kernel
theorem dX6_endedFrom_62 : decode cX6_endedFrom 62 = .ok (.iload_n 2, 1) := by decide +kernel
theorem dX6_endedFrom_63 : decode cX6_endedFrom 63 = .ok (.invokevirtual 139, 3) := by decide +kernel
theorem dX6_endedFrom_66 : decode cX6_endedFrom 66 = .ok (.ifCond .eq 45, 3) := by decide +kernel
theorem dX6_endedFrom_69 : decode cX6_endedFrom 69 = .ok (.aload_n 0, 1) := by decide +kernel
theorem dX6_endedFrom_70 : decode cX6_endedFrom 70 = .ok (.getfield 59, 3) := by decide +kernel
theorem dX6_endedFrom_73 : decode cX6_endedFrom 73 = .ok (.iload 7, 2) := by decide +kernel
theorem dX6_endedFrom_75 : decode cX6_endedFrom 75 = .ok (.iaload, 1) := by decide +kernel
theorem dX6_endedFrom_76 : decode cX6_endedFrom 76 = .ok (.aload_n 0, 1) := by decide +kernel
theorem dX6_endedFrom_77 : decode cX6_endedFrom 77 = .ok (.getfield 59, 3) := by decide +kernel
theorem dX6_endedFrom_80 : decode cX6_endedFrom 80 = .ok (.iload 5, 2) := by decide +kernel
theorem dX6_endedFrom_82 : decode cX6_endedFrom 82 = .ok (.iaload, 1) := by decide +kernel
theorem dX6_endedFrom_83 : decode cX6_endedFrom 83 = .ok (.if_icmp .gt 28, 3) := by decide +kernel
theorem dX6_endedFrom_86 : decode cX6_endedFrom 86 = .ok (.aload_n 0, 1) := by decide +kernel
theorem dX6_endedFrom_87 : decode cX6_endedFrom 87 = .ok (.getfield 59, 3) := by decide +kernel
theorem dX6_endedFrom_90 : decode cX6_endedFrom 90 = .ok (.iload 7, 2) := by decide +kernel
theorem dX6_endedFrom_92 : decode cX6_endedFrom 92 = .ok (.iaload, 1) := by decide +kernel
theorem dX6_endedFrom_93 : decode cX6_endedFrom 93 = .ok (.aload_n 0, 1) := by decide +kernel
theorem dX6_endedFrom_94 : decode cX6_endedFrom 94 = .ok (.getfield 59, 3) := by decide +kernel
theorem dX6_endedFrom_97 : decode cX6_endedFrom 97 = .ok (.iload 5, 2) := by decide +kernel
theorem dX6_endedFrom_99 : decode cX6_endedFrom 99 = .ok (.iaload, 1) := by decide +kernel
theorem dX6_endedFrom_100 : decode cX6_endedFrom 100 = .ok (.sipush 1825, 3) := by decide +kernel
theorem dX6_endedFrom_103 : decode cX6_endedFrom 103 = .ok (.isub, 1) := by decide +kernel
theorem dX6_endedFrom_104 : decode cX6_endedFrom 104 = .ok (.if_icmp .lt 7, 3) := by decide +kernel
theorem dX6_endedFrom_107 : decode cX6_endedFrom 107 = .ok (.iconst 1, 1) := by decide +kernel
theorem dX6_endedFrom_108 : decode cX6_endedFrom 108 = .ok (.goto 4, 3) := by decide +kernel
theorem dX6_endedFrom_111 : decode cX6_endedFrom 111 = .ok (.iconst 0, 1) := by decide +kernel
theorem dX6_endedFrom_112 : decode cX6_endedFrom 112 = .ok (.iadd, 1) := by decide +kernel
theorem dX6_endedFrom_113 : decode cX6_endedFrom 113 = .ok (.istore 6, 2) := by decide +kernel
theorem dX6_endedFrom_115 : decode cX6_endedFrom 115 = .ok (.iinc 7 1, 3) := by decide +kernel
theorem dX6_endedFrom_118 : decode cX6_endedFrom 118 = .ok (.goto (-80), 3) := by decide +kernel
theorem dX6_endedFrom_121 : decode cX6_endedFrom 121 = .ok (.iload 6, 2) := by decide +kernel
theorem dX6_endedFrom_123 : decode cX6_endedFrom 123 = .ok (.iconst 2, 1) := by decide +kernel
theorem dX6_endedFrom_124 : decode cX6_endedFrom 124 = .ok (.if_icmp .le 24, 3) := by decide +kernel
theorem dX6_endedFrom_127 : decode cX6_endedFrom 127 = .ok (.aload_n 0, 1) := by decide +kernel
theorem dX6_endedFrom_128 : decode cX6_endedFrom 128 = .ok (.getfield 59, 3) := by decide +kernel
theorem dX6_endedFrom_131 : decode cX6_endedFrom 131 = .ok (.iload 5, 2) := by decide +kernel
theorem dX6_endedFrom_133 : decode cX6_endedFrom 133 = .ok (.iaload, 1) := by decide +kernel
theorem dX6_endedFrom_134 : decode cX6_endedFrom 134 = .ok (.iload_n 3, 1) := by decide +kernel
theorem dX6_endedFrom_135 : decode cX6_endedFrom 135 = .ok (.if_icmp .ge 13, 3) := by decide +kernel
theorem dX6_endedFrom_138 : decode cX6_endedFrom 138 = .ok (.aload_n 0, 1) := by decide +kernel
theorem dX6_endedFrom_139 : decode cX6_endedFrom 139 = .ok (.getfield 59, 3) := by decide +kernel
theorem dX6_endedFrom_142 : decode cX6_endedFrom 142 = .ok (.iload 5, 2) := by decide +kernel
theorem dX6_endedFrom_144 : decode cX6_endedFrom 144 = .ok (.iaload, 1) := by decide +kernel
theorem dX6_endedFrom_145 : decode cX6_endedFrom 145 = .ok (.goto 4, 3) := by decide +kernel
theorem dX6_endedFrom_148 : decode cX6_endedFrom 148 = .ok (.iload_n 3, 1) := by decide +kernel
theorem dX6_endedFrom_149 : decode cX6_endedFrom 149 = .ok (.istore_n 3, 1) := by decide +kernel
theorem dX6_endedFrom_150 : decode cX6_endedFrom 150 = .ok (.iinc 5 1, 3) := by decide +kernel
theorem dX6_endedFrom_153 : decode cX6_endedFrom 153 = .ok (.goto (-131), 3) := by decide +kernel
theorem dX6_endedFrom_156 : decode cX6_endedFrom 156 = .ok (.iload_n 3, 1) := by decide +kernel
theorem dX6_endedFrom_157 : decode cX6_endedFrom 157 = .ok (.ireturn, 1) := by decide +kernel
set_option maxRecDepth 20000 in
theorem ggX6_lapsedFrom_X6_in : GoodIn wsX6_lapsedFrom wsX6_in := goodIn_r _ [8] (by decide +kernel) (by decide +kernel)
set_option maxRecDepth 20000 in
theorem gX6_lapsedFrom_X6_in : GoodIn wsX6_lapsedFrom (va_wsS RX6 92 yX6_in wsX6_in) := goodIn_app (goodIn_of _ (by decide +kernel)) ggX6_lapsedFrom_X6_in
theorem dX6_lapsedFrom_0 : decode cX6_lapsedFrom 0 = .ok (.ldc 126, 2) := by decide +kernel
theorem dX6_lapsedFrom_2 : decode cX6_lapsedFrom 2 = .ok (.istore_n 3, 1) := by decide +kernel
theorem dX6_lapsedFrom_3 : decode cX6_lapsedFrom 3 = .ok (.bipush 16, 2) := by decide +kernel
theorem dX6_lapsedFrom_5 : decode cX6_lapsedFrom 5 = .ok (.iload_n 1, 1) := by decide +kernel
theorem dX6_lapsedFrom_6 : decode cX6_lapsedFrom 6 = .ok (.imul, 1) := by decide +kernel
theorem dX6_lapsedFrom_7 : decode cX6_lapsedFrom 7 = .ok (.aload_n 0, 1) := by decide +kernel
theorem dX6_lapsedFrom_8 : decode cX6_lapsedFrom 8 = .ok (.getfield 56, 3) := by decide +kernel
theorem dX6_lapsedFrom_11 : decode cX6_lapsedFrom 11 = .ok (.iload_n 1, 1) := by decide +kernel
theorem dX6_lapsedFrom_12 : decode cX6_lapsedFrom 12 = .ok (.iaload, 1) := by decide +kernel
theorem dX6_lapsedFrom_13 : decode cX6_lapsedFrom 13 = .ok (.iadd, 1) := by decide +kernel
theorem dX6_lapsedFrom_14 : decode cX6_lapsedFrom 14 = .ok (.istore 4, 2) := by decide +kernel
theorem dX6_lapsedFrom_16 : decode cX6_lapsedFrom 16 = .ok (.bipush 16, 2) := by decide +kernel
theorem dX6_lapsedFrom_18 : decode cX6_lapsedFrom 18 = .ok (.iload_n 1, 1) := by decide +kernel
theorem dX6_lapsedFrom_19 : decode cX6_lapsedFrom 19 = .ok (.imul, 1) := by decide +kernel
theorem dX6_lapsedFrom_20 : decode cX6_lapsedFrom 20 = .ok (.istore 5, 2) := by decide +kernel
theorem dX6_lapsedFrom_22 : decode cX6_lapsedFrom 22 = .ok (.iload 5, 2) := by decide +kernel
theorem dX6_lapsedFrom_24 : decode cX6_lapsedFrom 24 = .ok (.iload 4, 2) := by decide +kernel
theorem dX6_lapsedFrom_26 : decode cX6_lapsedFrom 26 = .ok (.if_icmp .ge 135, 3) := by decide +kernel
theorem dX6_lapsedFrom_29 : decode cX6_lapsedFrom 29 = .ok (.aload_n 0, 1) := by decide +kernel
theorem dX6_lapsedFrom_30 : decode cX6_lapsedFrom 30 = .ok (.getfield 62, 3) := by decide +kernel
theorem dX6_lapsedFrom_33 : decode cX6_lapsedFrom 33 = .ok (.iload 5, 2) := by decide +kernel
theorem dX6_lapsedFrom_35 : decode cX6_lapsedFrom 35 = .ok (.iaload, 1) := by decide +kernel
theorem dX6_lapsedFrom_36 : decode cX6_lapsedFrom 36 = .ok (.iconst 2, 1) := by decide +kernel
theorem dX6_lapsedFrom_37 : decode cX6_lapsedFrom 37 = .ok (.if_icmp .ne 7, 3) := by decide +kernel
theorem dX6_lapsedFrom_40 : decode cX6_lapsedFrom 40 = .ok (.iconst 1, 1) := by decide +kernel
theorem dX6_lapsedFrom_41 : decode cX6_lapsedFrom 41 = .ok (.goto 4, 3) := by decide +kernel
theorem dX6_lapsedFrom_44 : decode cX6_lapsedFrom 44 = .ok (.iconst 0, 1) := by decide +kernel
theorem dX6_lapsedFrom_45 : decode cX6_lapsedFrom 45 = .ok (.istore 6, 2) := by decide +kernel
theorem dX6_lapsedFrom_47 : decode cX6_lapsedFrom 47 = .ok (.bipush 16, 2) := by decide +kernel
theorem dX6_lapsedFrom_49 : decode cX6_lapsedFrom 49 = .ok (.iload_n 1, 1) := by decide +kernel
theorem dX6_lapsedFrom_50 : decode cX6_lapsedFrom 50 = .ok (.imul, 1) := by decide +kernel
theorem dX6_lapsedFrom_51 : decode cX6_lapsedFrom 51 = .ok (.istore 7, 2) := by decide +kernel
theorem dX6_lapsedFrom_53 : decode cX6_lapsedFrom 53 = .ok (.iload 7, 2) := by decide +kernel
theorem dX6_lapsedFrom_55 : decode cX6_lapsedFrom 55 = .ok (.iload 4, 2) := by decide +kernel
theorem dX6_lapsedFrom_57 : decode cX6_lapsedFrom 57 = .ok (.if_icmp .ge 62, 3) := by decide +kernel
theorem dX6_lapsedFrom_60 : decode cX6_lapsedFrom 60 = .ok (.iload 6, 2) := by decide +kernel
theorem dX6_lapsedFrom_62 : decode cX6_lapsedFrom 62 = .ok (.ifCond .eq 48, 3) := by decide +kernel
theorem dX6_lapsedFrom_65 : decode cX6_lapsedFrom 65 = .ok (.aload_n 0, 1) := by decide +kernel
theorem dX6_lapsedFrom_66 : decode cX6_lapsedFrom 66 = .ok (.getfield 62, 3) := by decide +kernel
theorem dX6_lapsedFrom_69 : decode cX6_lapsedFrom 69 = .ok (.iload 7, 2) := by decide +kernel
theorem dX6_lapsedFrom_71 : decode cX6_lapsedFrom 71 = .ok (.iaload, 1) := by decide +kernel
theorem dX6_lapsedFrom_72 : decode cX6_lapsedFrom 72 = .ok (.iconst 3, 1) := by decide +kernel
theorem dX6_lapsedFrom_73 : decode cX6_lapsedFrom 73 = .ok (.if_icmp .ne 33, 3) := by decide +kernel
theorem dX6_lapsedFrom_76 : decode cX6_lapsedFrom 76 = .ok (.aload_n 0, 1) := by decide +kernel
theorem dX6_lapsedFrom_77 : decode cX6_lapsedFrom 77 = .ok (.getfield 59, 3) := by decide +kernel
theorem dX6_lapsedFrom_80 : decode cX6_lapsedFrom 80 = .ok (.iload 7, 2) := by decide +kernel
theorem dX6_lapsedFrom_82 : decode cX6_lapsedFrom 82 = .ok (.iaload, 1) := by decide +kernel
theorem dX6_lapsedFrom_83 : decode cX6_lapsedFrom 83 = .ok (.aload_n 0, 1) := by decide +kernel
theorem dX6_lapsedFrom_84 : decode cX6_lapsedFrom 84 = .ok (.getfield 59, 3) := by decide +kernel
theorem dX6_lapsedFrom_87 : decode cX6_lapsedFrom 87 = .ok (.iload 5, 2) := by decide +kernel
theorem dX6_lapsedFrom_89 : decode cX6_lapsedFrom 89 = .ok (.iaload, 1) := by decide +kernel
theorem dX6_lapsedFrom_90 : decode cX6_lapsedFrom 90 = .ok (.aload_n 0, 1) := by decide +kernel
theorem dX6_lapsedFrom_91 : decode cX6_lapsedFrom 91 = .ok (.getfield 59, 3) := by decide +kernel
theorem dX6_lapsedFrom_94 : decode cX6_lapsedFrom 94 = .ok (.iload 5, 2) := by decide +kernel
theorem dX6_lapsedFrom_96 : decode cX6_lapsedFrom 96 = .ok (.iaload, 1) := by decide +kernel
theorem dX6_lapsedFrom_97 : decode cX6_lapsedFrom 97 = .ok (.bipush 27, 2) := by decide +kernel
theorem dX6_lapsedFrom_99 : decode cX6_lapsedFrom 99 = .ok (.iadd, 1) := by decide +kernel
theorem dX6_lapsedFrom_100 : decode cX6_lapsedFrom 100 = .ok (.invokestatic 92, 3) := by decide +kernel
theorem dX6_lapsedFrom_103 : decode cX6_lapsedFrom 103 = .ok (.ifCond .ne 7, 3) := by decide +kernel
theorem dX6_lapsedFrom_106 : decode cX6_lapsedFrom 106 = .ok (.iconst 1, 1) := by decide +kernel
theorem dX6_lapsedFrom_107 : decode cX6_lapsedFrom 107 = .ok (.goto 4, 3) := by decide +kernel
theorem dX6_lapsedFrom_110 : decode cX6_lapsedFrom 110 = .ok (.iconst 0, 1) := by decide +kernel
theorem dX6_lapsedFrom_111 : decode cX6_lapsedFrom 111 = .ok (.istore 6, 2) := by decide +kernel
theorem dX6_lapsedFrom_113 : decode cX6_lapsedFrom 113 = .ok (.iinc 7 1, 3) := by decide +kernel
theorem dX6_lapsedFrom_116 : decode cX6_lapsedFrom 116 = .ok (.goto (-63), 3) := by decide +kernel
theorem dX6_lapsedFrom_119 : decode cX6_lapsedFrom 119 = .ok (.aload_n 0, 1) := by decide +kernel
theorem dX6_lapsedFrom_120 : decode cX6_lapsedFrom 120 = .ok (.getfield 59, 3) := by decide +kernel
theorem dX6_lapsedFrom_123 : decode cX6_lapsedFrom 123 = .ok (.iload 5, 2) := by decide +kernel
theorem dX6_lapsedFrom_125 : decode cX6_lapsedFrom 125 = .ok (.iaload, 1) := by decide +kernel
theorem dX6_lapsedFrom_126 : decode cX6_lapsedFrom 126 = .ok (.bipush 28, 2) := by decide +kernel
theorem dX6_lapsedFrom_128 : decode cX6_lapsedFrom 128 = .ok (.iadd, 1) := by decide +kernel
theorem dX6_lapsedFrom_129 : decode cX6_lapsedFrom 129 = .ok (.istore 7, 2) := by decide +kernel
theorem dX6_lapsedFrom_131 : decode cX6_lapsedFrom 131 = .ok (.iload 6, 2) := by decide +kernel
theorem dX6_lapsedFrom_133 : decode cX6_lapsedFrom 133 = .ok (.ifCond .eq 20, 3) := by decide +kernel
theorem dX6_lapsedFrom_136 : decode cX6_lapsedFrom 136 = .ok (.iload 7, 2) := by decide +kernel
theorem dX6_lapsedFrom_138 : decode cX6_lapsedFrom 138 = .ok (.iload_n 2, 1) := by decide +kernel
theorem dX6_lapsedFrom_139 : decode cX6_lapsedFrom 139 = .ok (.if_icmp .gt 14, 3) := by decide +kernel
theorem dX6_lapsedFrom_142 : decode cX6_lapsedFrom 142 = .ok (.iload 7, 2) := by decide +kernel
theorem dX6_lapsedFrom_144 : decode cX6_lapsedFrom 144 = .ok (.iload_n 3, 1) := by decide +kernel
theorem dX6_lapsedFrom_145 : decode cX6_lapsedFrom 145 = .ok (.if_icmp .ge 8, 3) := by decide +kernel
theorem dX6_lapsedFrom_148 : decode cX6_lapsedFrom 148 = .ok (.iload 7, 2) := by decide +kernel
theorem dX6_lapsedFrom_150 : decode cX6_lapsedFrom 150 = .ok (.goto 4, 3) := by decide +kernel
theorem dX6_lapsedFrom_153 : decode cX6_lapsedFrom 153 = .ok (.iload_n 3, 1) := by decide +kernel
theorem dX6_lapsedFrom_154 : decode cX6_lapsedFrom 154 = .ok (.istore_n 3, 1) := by decide +kernel
theorem dX6_lapsedFrom_155 : decode cX6_lapsedFrom 155 = .ok (.iinc 5 1, 3) := by decide +kernel
theorem dX6_lapsedFrom_158 : decode cX6_lapsedFrom 158 = .ok (.goto (-136), 3) := by decide +kernel
theorem dX6_lapsedFrom_161 : decode cX6_lapsedFrom 161 = .ok (.iload_n 3, 1) := by decide +kernel
theorem dX6_lapsedFrom_162 : decode cX6_lapsedFrom 162 = .ok (.ireturn, 1) := by decide +kernel
theorem dX6_surplusFrom_0 : decode cX6_surplusFrom 0 = .ok (.ldc 126, 2) := by decide +kernel
theorem dX6_surplusFrom_2 : decode cX6_surplusFrom 2 = .ok (.istore_n 3, 1) := by decide +kernel
theorem dX6_surplusFrom_3 : decode cX6_surplusFrom 3 = .ok (.bipush 16, 2) := by decide +kernel
theorem dX6_surplusFrom_5 : decode cX6_surplusFrom 5 = .ok (.iload_n 1, 1) := by decide +kernel
theorem dX6_surplusFrom_6 : decode cX6_surplusFrom 6 = .ok (.imul, 1) := by decide +kernel
theorem dX6_surplusFrom_7 : decode cX6_surplusFrom 7 = .ok (.istore 4, 2) := by decide +kernel
theorem dX6_surplusFrom_9 : decode cX6_surplusFrom 9 = .ok (.iload 4, 2) := by decide +kernel
theorem dX6_surplusFrom_11 : decode cX6_surplusFrom 11 = .ok (.bipush 16, 2) := by decide +kernel
theorem dX6_surplusFrom_13 : decode cX6_surplusFrom 13 = .ok (.iload_n 1, 1) := by decide +kernel
theorem dX6_surplusFrom_14 : decode cX6_surplusFrom 14 = .ok (.imul, 1) := by decide +kernel
theorem dX6_surplusFrom_15 : decode cX6_surplusFrom 15 = .ok (.aload_n 0, 1) := by decide +kernel
theorem dX6_surplusFrom_16 : decode cX6_surplusFrom 16 = .ok (.getfield 56, 3) := by decide +kernel
theorem dX6_surplusFrom_19 : decode cX6_surplusFrom 19 = .ok (.iload_n 1, 1) := by decide +kernel
theorem dX6_surplusFrom_20 : decode cX6_surplusFrom 20 = .ok (.iaload, 1) := by decide +kernel
theorem dX6_surplusFrom_21 : decode cX6_surplusFrom 21 = .ok (.iadd, 1) := by decide +kernel
theorem dX6_surplusFrom_22 : decode cX6_surplusFrom 22 = .ok (.if_icmp .ge 55, 3) := by decide +kernel
theorem dX6_surplusFrom_25 : decode cX6_surplusFrom 25 = .ok (.aload_n 0, 1) := by decide +kernel
theorem dX6_surplusFrom_26 : decode cX6_surplusFrom 26 = .ok (.getfield 62, 3) := by decide +kernel
theorem dX6_surplusFrom_29 : decode cX6_surplusFrom 29 = .ok (.iload 4, 2) := by decide +kernel
theorem dX6_surplusFrom_31 : decode cX6_surplusFrom 31 = .ok (.iaload, 1) := by decide +kernel
theorem dX6_surplusFrom_32 : decode cX6_surplusFrom 32 = .ok (.bipush 6, 2) := by decide +kernel
theorem dX6_surplusFrom_34 : decode cX6_surplusFrom 34 = .ok (.if_icmp .ne 35, 3) := by decide +kernel
theorem dX6_surplusFrom_37 : decode cX6_surplusFrom 37 = .ok (.aload_n 0, 1) := by decide +kernel
theorem dX6_surplusFrom_38 : decode cX6_surplusFrom 38 = .ok (.getfield 59, 3) := by decide +kernel
theorem dX6_surplusFrom_41 : decode cX6_surplusFrom 41 = .ok (.iload 4, 2) := by decide +kernel
theorem dX6_surplusFrom_43 : decode cX6_surplusFrom 43 = .ok (.iaload, 1) := by decide +kernel
theorem dX6_surplusFrom_44 : decode cX6_surplusFrom 44 = .ok (.iload_n 2, 1) := by decide +kernel
theorem dX6_surplusFrom_45 : decode cX6_surplusFrom 45 = .ok (.if_icmp .gt 24, 3) := by decide +kernel
theorem dX6_surplusFrom_48 : decode cX6_surplusFrom 48 = .ok (.aload_n 0, 1) := by decide +kernel
theorem dX6_surplusFrom_49 : decode cX6_surplusFrom 49 = .ok (.getfield 59, 3) := by decide +kernel
theorem dX6_surplusFrom_52 : decode cX6_surplusFrom 52 = .ok (.iload 4, 2) := by decide +kernel
theorem dX6_surplusFrom_54 : decode cX6_surplusFrom 54 = .ok (.iaload, 1) := by decide +kernel
theorem dX6_surplusFrom_55 : decode cX6_surplusFrom 55 = .ok (.iload_n 3, 1) := by decide +kernel
theorem dX6_surplusFrom_56 : decode cX6_surplusFrom 56 = .ok (.if_icmp .ge 13, 3) := by decide +kernel
theorem dX6_surplusFrom_59 : decode cX6_surplusFrom 59 = .ok (.aload_n 0, 1) := by decide +kernel
theorem dX6_surplusFrom_60 : decode cX6_surplusFrom 60 = .ok (.getfield 59, 3) := by decide +kernel
theorem dX6_surplusFrom_63 : decode cX6_surplusFrom 63 = .ok (.iload 4, 2) := by decide +kernel
theorem dX6_surplusFrom_65 : decode cX6_surplusFrom 65 = .ok (.iaload, 1) := by decide +kernel
theorem dX6_surplusFrom_66 : decode cX6_surplusFrom 66 = .ok (.goto 4, 3) := by decide +kernel
theorem dX6_surplusFrom_69 : decode cX6_surplusFrom 69 = .ok (.iload_n 3, 1) := by decide +kernel
theorem dX6_surplusFrom_70 : decode cX6_surplusFrom 70 = .ok (.istore_n 3, 1) := by decide +kernel
theorem dX6_surplusFrom_71 : decode cX6_surplusFrom 71 = .ok (.iinc 4 1, 3) := by decide +kernel
theorem dX6_surplusFrom_74 : decode cX6_surplusFrom 74 = .ok (.goto (-65), 3) := by decide +kernel
theorem dX6_surplusFrom_77 : decode cX6_surplusFrom 77 = .ok (.iload_n 3, 1) := by decide +kernel
theorem dX6_surplusFrom_78 : decode cX6_surplusFrom 78 = .ok (.ireturn, 1) := by decide +kernel
set_option maxRecDepth 20000 in
theorem ggX6_stateOn_X6_endedFrom : GoodIn wsX6_stateOn wsX6_endedFrom := goodIn_r _ [7, 2, 8, 9, 10, 11, 12, 6, 13, 14, 15, 27, 28, 29, 30, 31, 32, 33, 34, 35, 36, 37, 38, 39, 40, 41, 42, 43, 44, 45, 46, 47, 48, 49, 50, 51, 52, 53, 54, 55, 56, 57, 58] (by decide +kernel) (by decide +kernel)
set_option maxRecDepth 20000 in
theorem gX6_stateOn_X6_endedFrom : GoodIn wsX6_stateOn (wsV RX6 142 RX6 yX6_endedFrom wsX6_endedFrom) := goodIn_app (goodIn_of _ (by decide +kernel)) ggX6_stateOn_X6_endedFrom
set_option maxRecDepth 20000 in
theorem ggX6_stateOn_X6_lapsedFrom : GoodIn wsX6_stateOn wsX6_lapsedFrom := goodIn_r _ [19, 2, 8, 14, 9, 20, 21, 6, 22, 27, 28, 29, 30, 31, 32, 33, 34, 35, 36, 37, 38, 39, 40, 41, 42, 43, 44, 45, 46, 47, 48, 49, 50, 51, 52, 53, 54, 55, 56, 57, 58] (by decide +kernel) (by decide +kernel)
set_option maxRecDepth 20000 in
theorem gX6_stateOn_X6_lapsedFrom : GoodIn wsX6_stateOn (wsV RX6 146 RX6 yX6_lapsedFrom wsX6_lapsedFrom) := goodIn_app (goodIn_of _ (by decide +kernel)) ggX6_stateOn_X6_lapsedFrom
set_option maxRecDepth 20000 in
theorem ggX6_stateOn_X6_surplusFrom : GoodIn wsX6_stateOn wsX6_surplusFrom := goodIn_r _ [26, 2, 8, 14, 9, 27, 28, 29, 30, 31, 32, 33, 34, 35, 36, 37, 38, 39, 40, 41, 42, 43, 44, 45, 46, 47, 48, 49, 50, 51, 52, 53, 54, 55, 56, 57, 58] (by decide +kernel) (by decide +kernel)
set_option maxRecDepth 20000 in
theorem gX6_stateOn_X6_surplusFrom : GoodIn wsX6_stateOn (wsV RX6 149 RX6 yX6_surplusFrom wsX6_surplusFrom) := goodIn_app (goodIn_of _ (by decide +kernel)) ggX6_stateOn_X6_surplusFrom
theorem dX6_stateOn_0 : decode cX6_stateOn 0 = .ok (.iload_n 2, 1) := by decide +kernel
theorem dX6_stateOn_1 : decode cX6_stateOn 1 = .ok (.aload_n 0, 1) := by decide +kernel
theorem dX6_stateOn_2 : decode cX6_stateOn 2 = .ok (.getfield 53, 3) := by decide +kernel
theorem dX6_stateOn_5 : decode cX6_stateOn 5 = .ok (.iload_n 1, 1) := by decide +kernel
theorem dX6_stateOn_6 : decode cX6_stateOn 6 = .ok (.iaload, 1) := by decide +kernel
theorem dX6_stateOn_7 : decode cX6_stateOn 7 = .ok (.if_icmp .ge 5, 3) := by decide +kernel
theorem dX6_stateOn_10 : decode cX6_stateOn 10 = .ok (.iconst 0, 1) := by decide +kernel
theorem dX6_stateOn_11 : decode cX6_stateOn 11 = .ok (.ireturn, 1) := by decide +kernel
theorem dX6_stateOn_12 : decode cX6_stateOn 12 = .ok (.aload_n 0, 1) := by decide +kernel
theorem dX6_stateOn_13 : decode cX6_stateOn 13 = .ok (.iload_n 1, 1) := by decide +kernel
theorem dX6_stateOn_14 : decode cX6_stateOn 14 = .ok (.iload_n 2, 1) := by decide +kernel
theorem dX6_stateOn_15 : decode cX6_stateOn 15 = .ok (.invokevirtual 142, 3) := by decide +kernel
theorem dX6_stateOn_18 : decode cX6_stateOn 18 = .ok (.istore_n 3, 1) := by decide +kernel
theorem dX6_stateOn_19 : decode cX6_stateOn 19 = .ok (.aload_n 0, 1) := by decide +kernel
theorem dX6_stateOn_20 : decode cX6_stateOn 20 = .ok (.iload_n 1, 1) := by decide +kernel
theorem dX6_stateOn_21 : decode cX6_stateOn 21 = .ok (.iload_n 2, 1) := by decide +kernel
theorem dX6_stateOn_22 : decode cX6_stateOn 22 = .ok (.invokevirtual 146, 3) := by decide +kernel
theorem dX6_stateOn_25 : decode cX6_stateOn 25 = .ok (.istore 4, 2) := by decide +kernel
theorem dX6_stateOn_27 : decode cX6_stateOn 27 = .ok (.aload_n 0, 1) := by decide +kernel
theorem dX6_stateOn_28 : decode cX6_stateOn 28 = .ok (.iload_n 1, 1) := by decide +kernel
theorem dX6_stateOn_29 : decode cX6_stateOn 29 = .ok (.iload_n 2, 1) := by decide +kernel
theorem dX6_stateOn_30 : decode cX6_stateOn 30 = .ok (.invokevirtual 149, 3) := by decide +kernel
theorem dX6_stateOn_33 : decode cX6_stateOn 33 = .ok (.istore 5, 2) := by decide +kernel
theorem dX6_stateOn_35 : decode cX6_stateOn 35 = .ok (.iload_n 3, 1) := by decide +kernel
theorem dX6_stateOn_36 : decode cX6_stateOn 36 = .ok (.ldc 126, 2) := by decide +kernel
theorem dX6_stateOn_38 : decode cX6_stateOn 38 = .ok (.if_icmp .ne 19, 3) := by decide +kernel
theorem dX6_stateOn_41 : decode cX6_stateOn 41 = .ok (.iload 4, 2) := by decide +kernel
theorem dX6_stateOn_43 : decode cX6_stateOn 43 = .ok (.ldc 126, 2) := by decide +kernel
theorem dX6_stateOn_45 : decode cX6_stateOn 45 = .ok (.if_icmp .ne 12, 3) := by decide +kernel
theorem dX6_stateOn_48 : decode cX6_stateOn 48 = .ok (.iload 5, 2) := by decide +kernel
theorem dX6_stateOn_50 : decode cX6_stateOn 50 = .ok (.ldc 126, 2) := by decide +kernel
theorem dX6_stateOn_52 : decode cX6_stateOn 52 = .ok (.if_icmp .ne 5, 3) := by decide +kernel
theorem dX6_stateOn_55 : decode cX6_stateOn 55 = .ok (.iconst 1, 1) := by decide +kernel
theorem dX6_stateOn_56 : decode cX6_stateOn 56 = .ok (.ireturn, 1) := by decide +kernel
theorem dX6_stateOn_57 : decode cX6_stateOn 57 = .ok (.iload_n 3, 1) := by decide +kernel
theorem dX6_stateOn_58 : decode cX6_stateOn 58 = .ok (.iload 4, 2) := by decide +kernel
theorem dX6_stateOn_60 : decode cX6_stateOn 60 = .ok (.if_icmp .gt 13, 3) := by decide +kernel
theorem dX6_stateOn_63 : decode cX6_stateOn 63 = .ok (.iload_n 3, 1) := by decide +kernel
theorem dX6_stateOn_64 : decode cX6_stateOn 64 = .ok (.iload 5, 2) := by decide +kernel
theorem dX6_stateOn_66 : decode cX6_stateOn 66 = .ok (.if_icmp .gt 7, 3) := by decide +kernel
theorem dX6_stateOn_69 : decode cX6_stateOn 69 = .ok (.iconst 2, 1) := by decide +kernel
theorem dX6_stateOn_70 : decode cX6_stateOn 70 = .ok (.goto 15, 3) := by decide +kernel
theorem dX6_stateOn_73 : decode cX6_stateOn 73 = .ok (.iload 4, 2) := by decide +kernel
theorem dX6_stateOn_75 : decode cX6_stateOn 75 = .ok (.iload 5, 2) := by decide +kernel
theorem dX6_stateOn_77 : decode cX6_stateOn 77 = .ok (.if_icmp .gt 7, 3) := by decide +kernel
theorem dX6_stateOn_80 : decode cX6_stateOn 80 = .ok (.iconst 3, 1) := by decide +kernel
theorem dX6_stateOn_81 : decode cX6_stateOn 81 = .ok (.goto 4, 3) := by decide +kernel
theorem dX6_stateOn_84 : decode cX6_stateOn 84 = .ok (.iconst 4, 1) := by decide +kernel
theorem dX6_stateOn_85 : decode cX6_stateOn 85 = .ok (.ireturn, 1) := by decide +kernel
set_option maxRecDepth 20000 in
theorem ggX6_has_X6_stateOn : GoodIn wsX6_has wsX6_stateOn := goodIn_r _ [5, 6, 7, 8, 9, 10, 4, 11, 12, 13, 14, 15, 16, 17, 18, 19, 20, 21, 22, 23, 24, 25, 26, 27, 28, 29, 30, 31, 32, 33, 34, 35, 36, 37, 38, 39, 40, 41, 42, 43, 44, 45, 46, 47, 48, 49, 50, 51, 52, 53, 54, 55, 56, 57, 58, 59, 60, 61, 62] (by decide +kernel) (by decide +kernel)
set_option maxRecDepth 20000 in
theorem gX6_has_X6_stateOn : GoodIn wsX6_has (wsV RX6 152 RX6 yX6_stateOn wsX6_stateOn) := goodIn_app (goodIn_of _ (by decide +kernel)) ggX6_has_X6_stateOn
theorem dX6_has_0 : decode cX6_has 0 = .ok (.aload_n 0, 1) := by decide +kernel
theorem dX6_has_1 : decode cX6_has 1 = .ok (.iload_n 1, 1) := by decide +kernel
theorem dX6_has_2 : decode cX6_has 2 = .ok (.iload_n 2, 1) := by decide +kernel
theorem dX6_has_3 : decode cX6_has 3 = .ok (.invokevirtual 152, 3) := by decide +kernel
theorem dX6_has_6 : decode cX6_has 6 = .ok (.iconst 1, 1) := by decide +kernel
theorem dX6_has_7 : decode cX6_has 7 = .ok (.if_icmp .ne 7, 3) := by decide +kernel
theorem dX6_has_10 : decode cX6_has 10 = .ok (.iconst 1, 1) := by decide +kernel
theorem dX6_has_11 : decode cX6_has 11 = .ok (.goto 4, 3) := by decide +kernel
theorem dX6_has_14 : decode cX6_has 14 = .ok (.iconst 0, 1) := by decide +kernel
theorem dX6_has_15 : decode cX6_has 15 = .ok (.ireturn, 1) := by decide +kernel
set_option maxRecDepth 20000 in
theorem ggX6_condition_X6_in : GoodIn wsX6_condition wsX6_in := goodIn_r _ [8] (by decide +kernel) (by decide +kernel)
set_option maxRecDepth 20000 in
theorem gX6_condition_X6_in : GoodIn wsX6_condition (va_wsS RX6 92 yX6_in wsX6_in) := goodIn_app (goodIn_of _ (by decide +kernel)) ggX6_condition_X6_in
theorem dX6_condition_0 : decode cX6_condition 0 = .ok (.iconst (-1), 1) := by decide +kernel
theorem dX6_condition_1 : decode cX6_condition 1 = .ok (.istore_n 3, 1) := by decide +kernel
theorem dX6_condition_2 : decode cX6_condition 2 = .ok (.bipush 16, 2) := by decide +kernel
theorem dX6_condition_4 : decode cX6_condition 4 = .ok (.iload_n 1, 1) := by decide +kernel
theorem dX6_condition_5 : decode cX6_condition 5 = .ok (.imul, 1) := by decide +kernel
theorem dX6_condition_6 : decode cX6_condition 6 = .ok (.istore 4, 2) := by decide +kernel
theorem dX6_condition_8 : decode cX6_condition 8 = .ok (.iload 4, 2) := by decide +kernel
theorem dX6_condition_10 : decode cX6_condition 10 = .ok (.bipush 16, 2) := by decide +kernel
theorem dX6_condition_12 : decode cX6_condition 12 = .ok (.iload_n 1, 1) := by decide +kernel
theorem dX6_condition_13 : decode cX6_condition 13 = .ok (.imul, 1) := by decide +kernel
theorem dX6_condition_14 : decode cX6_condition 14 = .ok (.aload_n 0, 1) := by decide +kernel
theorem dX6_condition_15 : decode cX6_condition 15 = .ok (.getfield 56, 3) := by decide +kernel
theorem dX6_condition_18 : decode cX6_condition 18 = .ok (.iload_n 1, 1) := by decide +kernel
theorem dX6_condition_19 : decode cX6_condition 19 = .ok (.iaload, 1) := by decide +kernel
theorem dX6_condition_20 : decode cX6_condition 20 = .ok (.iadd, 1) := by decide +kernel
theorem dX6_condition_21 : decode cX6_condition 21 = .ok (.if_icmp .ge 74, 3) := by decide +kernel
theorem dX6_condition_24 : decode cX6_condition 24 = .ok (.aload_n 0, 1) := by decide +kernel
theorem dX6_condition_25 : decode cX6_condition 25 = .ok (.getfield 62, 3) := by decide +kernel
theorem dX6_condition_28 : decode cX6_condition 28 = .ok (.iload 4, 2) := by decide +kernel
theorem dX6_condition_30 : decode cX6_condition 30 = .ok (.iaload, 1) := by decide +kernel
theorem dX6_condition_31 : decode cX6_condition 31 = .ok (.iconst 4, 1) := by decide +kernel
theorem dX6_condition_32 : decode cX6_condition 32 = .ok (.iconst 5, 1) := by decide +kernel
theorem dX6_condition_33 : decode cX6_condition 33 = .ok (.invokestatic 92, 3) := by decide +kernel
theorem dX6_condition_36 : decode cX6_condition 36 = .ok (.ifCond .eq 18, 3) := by decide +kernel
theorem dX6_condition_39 : decode cX6_condition 39 = .ok (.aload_n 0, 1) := by decide +kernel
theorem dX6_condition_40 : decode cX6_condition 40 = .ok (.getfield 59, 3) := by decide +kernel
theorem dX6_condition_43 : decode cX6_condition 43 = .ok (.iload 4, 2) := by decide +kernel
theorem dX6_condition_45 : decode cX6_condition 45 = .ok (.iaload, 1) := by decide +kernel
theorem dX6_condition_46 : decode cX6_condition 46 = .ok (.iload_n 2, 1) := by decide +kernel
theorem dX6_condition_47 : decode cX6_condition 47 = .ok (.if_icmp .gt 7, 3) := by decide +kernel
theorem dX6_condition_50 : decode cX6_condition 50 = .ok (.iconst 1, 1) := by decide +kernel
theorem dX6_condition_51 : decode cX6_condition 51 = .ok (.goto 4, 3) := by decide +kernel
theorem dX6_condition_54 : decode cX6_condition 54 = .ok (.iconst 0, 1) := by decide +kernel
theorem dX6_condition_55 : decode cX6_condition 55 = .ok (.istore 5, 2) := by decide +kernel
theorem dX6_condition_57 : decode cX6_condition 57 = .ok (.iload 5, 2) := by decide +kernel
theorem dX6_condition_59 : decode cX6_condition 59 = .ok (.ifCond .eq 28, 3) := by decide +kernel
theorem dX6_condition_62 : decode cX6_condition 62 = .ok (.iload_n 3, 1) := by decide +kernel
theorem dX6_condition_63 : decode cX6_condition 63 = .ok (.ifCond .lt 19, 3) := by decide +kernel
theorem dX6_condition_66 : decode cX6_condition 66 = .ok (.aload_n 0, 1) := by decide +kernel
theorem dX6_condition_67 : decode cX6_condition 67 = .ok (.getfield 59, 3) := by decide +kernel
theorem dX6_condition_70 : decode cX6_condition 70 = .ok (.iload 4, 2) := by decide +kernel
theorem dX6_condition_72 : decode cX6_condition 72 = .ok (.iaload, 1) := by decide +kernel
theorem dX6_condition_73 : decode cX6_condition 73 = .ok (.aload_n 0, 1) := by decide +kernel
theorem dX6_condition_74 : decode cX6_condition 74 = .ok (.getfield 59, 3) := by decide +kernel
theorem dX6_condition_77 : decode cX6_condition 77 = .ok (.iload_n 3, 1) := by decide +kernel
theorem dX6_condition_78 : decode cX6_condition 78 = .ok (.iaload, 1) := by decide +kernel
theorem dX6_condition_79 : decode cX6_condition 79 = .ok (.if_icmp .lt 8, 3) := by decide +kernel
theorem dX6_condition_82 : decode cX6_condition 82 = .ok (.iload 4, 2) := by decide +kernel
theorem dX6_condition_84 : decode cX6_condition 84 = .ok (.goto 4, 3) := by decide +kernel
theorem dX6_condition_87 : decode cX6_condition 87 = .ok (.iload_n 3, 1) := by decide +kernel
theorem dX6_condition_88 : decode cX6_condition 88 = .ok (.istore_n 3, 1) := by decide +kernel
theorem dX6_condition_89 : decode cX6_condition 89 = .ok (.iinc 4 1, 3) := by decide +kernel
theorem dX6_condition_92 : decode cX6_condition 92 = .ok (.goto (-84), 3) := by decide +kernel
theorem dX6_condition_95 : decode cX6_condition 95 = .ok (.iload_n 3, 1) := by decide +kernel
theorem dX6_condition_96 : decode cX6_condition 96 = .ok (.ifCond .lt 13, 3) := by decide +kernel
theorem dX6_condition_99 : decode cX6_condition 99 = .ok (.aload_n 0, 1) := by decide +kernel
theorem dX6_condition_100 : decode cX6_condition 100 = .ok (.getfield 62, 3) := by decide +kernel
theorem dX6_condition_103 : decode cX6_condition 103 = .ok (.iload_n 3, 1) := by decide +kernel
theorem dX6_condition_104 : decode cX6_condition 104 = .ok (.iaload, 1) := by decide +kernel
theorem dX6_condition_105 : decode cX6_condition 105 = .ok (.iconst 5, 1) := by decide +kernel
theorem dX6_condition_106 : decode cX6_condition 106 = .ok (.if_icmp .ne 8, 3) := by decide +kernel
theorem dX6_condition_109 : decode cX6_condition 109 = .ok (.bipush (-4), 2) := by decide +kernel
theorem dX6_condition_111 : decode cX6_condition 111 = .ok (.goto 9, 3) := by decide +kernel
theorem dX6_condition_114 : decode cX6_condition 114 = .ok (.aload_n 0, 1) := by decide +kernel
theorem dX6_condition_115 : decode cX6_condition 115 = .ok (.getfield 65, 3) := by decide +kernel
theorem dX6_condition_118 : decode cX6_condition 118 = .ok (.iload_n 3, 1) := by decide +kernel
theorem dX6_condition_119 : decode cX6_condition 119 = .ok (.iaload, 1) := by decide +kernel
theorem dX6_condition_120 : decode cX6_condition 120 = .ok (.ireturn, 1) := by decide +kernel
theorem dX6_worthOn_0 : decode cX6_worthOn 0 = .ok (.bipush 8, 2) := by decide +kernel
theorem dX6_worthOn_2 : decode cX6_worthOn 2 = .ok (.iload_n 1, 1) := by decide +kernel
theorem dX6_worthOn_3 : decode cX6_worthOn 3 = .ok (.imul, 1) := by decide +kernel
theorem dX6_worthOn_4 : decode cX6_worthOn 4 = .ok (.istore_n 3, 1) := by decide +kernel
theorem dX6_worthOn_5 : decode cX6_worthOn 5 = .ok (.bipush 8, 2) := by decide +kernel
theorem dX6_worthOn_7 : decode cX6_worthOn 7 = .ok (.iload_n 1, 1) := by decide +kernel
theorem dX6_worthOn_8 : decode cX6_worthOn 8 = .ok (.imul, 1) := by decide +kernel
theorem dX6_worthOn_9 : decode cX6_worthOn 9 = .ok (.istore 4, 2) := by decide +kernel
theorem dX6_worthOn_11 : decode cX6_worthOn 11 = .ok (.iload 4, 2) := by decide +kernel
theorem dX6_worthOn_13 : decode cX6_worthOn 13 = .ok (.bipush 8, 2) := by decide +kernel
theorem dX6_worthOn_15 : decode cX6_worthOn 15 = .ok (.iload_n 1, 1) := by decide +kernel
theorem dX6_worthOn_16 : decode cX6_worthOn 16 = .ok (.imul, 1) := by decide +kernel
theorem dX6_worthOn_17 : decode cX6_worthOn 17 = .ok (.aload_n 0, 1) := by decide +kernel
theorem dX6_worthOn_18 : decode cX6_worthOn 18 = .ok (.getfield 68, 3) := by decide +kernel
theorem dX6_worthOn_21 : decode cX6_worthOn 21 = .ok (.iload_n 1, 1) := by decide +kernel
theorem dX6_worthOn_22 : decode cX6_worthOn 22 = .ok (.iaload, 1) := by decide +kernel
theorem dX6_worthOn_23 : decode cX6_worthOn 23 = .ok (.iadd, 1) := by decide +kernel
theorem dX6_worthOn_24 : decode cX6_worthOn 24 = .ok (.if_icmp .ge 43, 3) := by decide +kernel
theorem dX6_worthOn_27 : decode cX6_worthOn 27 = .ok (.aload_n 0, 1) := by decide +kernel
theorem dX6_worthOn_28 : decode cX6_worthOn 28 = .ok (.getfield 71, 3) := by decide +kernel
theorem dX6_worthOn_31 : decode cX6_worthOn 31 = .ok (.iload 4, 2) := by decide +kernel
theorem dX6_worthOn_33 : decode cX6_worthOn 33 = .ok (.iaload, 1) := by decide +kernel
theorem dX6_worthOn_34 : decode cX6_worthOn 34 = .ok (.iload_n 2, 1) := by decide +kernel
theorem dX6_worthOn_35 : decode cX6_worthOn 35 = .ok (.if_icmp .gt 24, 3) := by decide +kernel
theorem dX6_worthOn_38 : decode cX6_worthOn 38 = .ok (.aload_n 0, 1) := by decide +kernel
theorem dX6_worthOn_39 : decode cX6_worthOn 39 = .ok (.getfield 71, 3) := by decide +kernel
theorem dX6_worthOn_42 : decode cX6_worthOn 42 = .ok (.iload 4, 2) := by decide +kernel
theorem dX6_worthOn_44 : decode cX6_worthOn 44 = .ok (.iaload, 1) := by decide +kernel
theorem dX6_worthOn_45 : decode cX6_worthOn 45 = .ok (.aload_n 0, 1) := by decide +kernel
theorem dX6_worthOn_46 : decode cX6_worthOn 46 = .ok (.getfield 71, 3) := by decide +kernel
theorem dX6_worthOn_49 : decode cX6_worthOn 49 = .ok (.iload_n 3, 1) := by decide +kernel
theorem dX6_worthOn_50 : decode cX6_worthOn 50 = .ok (.iaload, 1) := by decide +kernel
theorem dX6_worthOn_51 : decode cX6_worthOn 51 = .ok (.if_icmp .lt 8, 3) := by decide +kernel
theorem dX6_worthOn_54 : decode cX6_worthOn 54 = .ok (.iload 4, 2) := by decide +kernel
theorem dX6_worthOn_56 : decode cX6_worthOn 56 = .ok (.goto 4, 3) := by decide +kernel
theorem dX6_worthOn_59 : decode cX6_worthOn 59 = .ok (.iload_n 3, 1) := by decide +kernel
theorem dX6_worthOn_60 : decode cX6_worthOn 60 = .ok (.istore_n 3, 1) := by decide +kernel
theorem dX6_worthOn_61 : decode cX6_worthOn 61 = .ok (.iinc 4 1, 3) := by decide +kernel
theorem dX6_worthOn_64 : decode cX6_worthOn 64 = .ok (.goto (-53), 3) := by decide +kernel
theorem dX6_worthOn_67 : decode cX6_worthOn 67 = .ok (.aload_n 0, 1) := by decide +kernel
theorem dX6_worthOn_68 : decode cX6_worthOn 68 = .ok (.getfield 74, 3) := by decide +kernel
theorem dX6_worthOn_71 : decode cX6_worthOn 71 = .ok (.iload_n 3, 1) := by decide +kernel
theorem dX6_worthOn_72 : decode cX6_worthOn 72 = .ok (.iaload, 1) := by decide +kernel
theorem dX6_worthOn_73 : decode cX6_worthOn 73 = .ok (.ireturn, 1) := by decide +kernel
set_option maxRecDepth 20000 in
theorem ggX6_on_X6_isHouse : GoodIn wsX6_on wsX6_isHouse := goodIn_r _ [7, 8, 9, 10, 6, 11, 50, 51, 52, 53, 54, 55, 56, 57, 58, 59, 60, 61, 62, 63, 64, 65, 66, 67, 68, 69, 70, 71, 72, 73, 74, 75, 76, 77, 78, 79, 80, 81] (by decide +kernel) (by decide +kernel)
set_option maxRecDepth 20000 in
theorem gX6_on_X6_isHouse : GoodIn wsX6_on (wsV RX6 133 RX6 yX6_isHouse wsX6_isHouse) := goodIn_app (goodIn_of _ (by decide +kernel)) ggX6_on_X6_isHouse
set_option maxRecDepth 20000 in
theorem ggX6_on_X6_isDay : GoodIn wsX6_on wsX6_isDay := goodIn_r _ [14, 9, 10, 6, 11] (by decide +kernel) (by decide +kernel)
set_option maxRecDepth 20000 in
theorem gX6_on_X6_isDay : GoodIn wsX6_on (va_wsS RX6 99 yX6_isDay wsX6_isDay) := goodIn_app (goodIn_of _ (by decide +kernel)) ggX6_on_X6_isDay
set_option maxRecDepth 20000 in
theorem ggX6_on_X6_in : GoodIn wsX6_on wsX6_in := goodIn_r _ [11] (by decide +kernel) (by decide +kernel)
set_option maxRecDepth 20000 in
theorem gX6_on_X6_in : GoodIn wsX6_on (va_wsS RX6 92 yX6_in wsX6_in) := goodIn_app (goodIn_of _ (by decide +kernel)) ggX6_on_X6_in
set_option maxRecDepth 20000 in
theorem ggX6_on_X6_counts : GoodIn wsX6_on wsX6_counts := goodIn_r _ [18, 19, 2, 1, 20, 50, 51, 52, 53, 54, 55, 56, 57, 58, 59, 60, 61, 62, 63, 64, 65, 66, 67, 68, 69, 70, 71, 72, 73, 74, 75, 76, 77, 78, 79, 80, 81] (by decide +kernel) (by decide +kernel)
set_option maxRecDepth 20000 in
theorem gX6_on_X6_counts : GoodIn wsX6_on (wsV RX6 139 RX6 yX6_counts wsX6_counts) := goodIn_app (goodIn_of _ (by decide +kernel)) ggX6_on_X6_counts
set_option maxRecDepth 20000 in
theorem ggX6_on_X6_stateOn : GoodIn wsX6_on wsX6_stateOn := goodIn_r _ [24, 25, 26, 27, 28, 29, 6, 30, 1, 2, 15, 16, 17, 18, 19, 20, 31, 32, 33, 34, 9, 10, 11, 35, 36, 37, 38, 50, 51, 52, 53, 54, 55, 56, 57, 58, 59, 60, 61, 62, 63, 64, 65, 66, 67, 68, 69, 70, 71, 72, 73, 74, 75, 76, 77, 78, 79, 80, 81] (by decide +kernel) (by decide +kernel)
set_option maxRecDepth 20000 in
theorem gX6_on_X6_stateOn : GoodIn wsX6_on (wsV RX6 152 RX6 yX6_stateOn wsX6_stateOn) := goodIn_app (goodIn_of _ (by decide +kernel)) ggX6_on_X6_stateOn
set_option maxRecDepth 20000 in
theorem ggX6_on_X6_condition : GoodIn wsX6_on wsX6_condition := goodIn_r _ [42, 1, 19, 2, 20, 9, 10, 6, 11, 50, 51, 52, 53, 54, 55, 56, 57, 58, 59, 60, 61, 62, 63, 64, 65, 66, 67, 68, 69, 70, 71, 72, 73, 74, 75, 76, 77, 78, 79, 80, 81] (by decide +kernel) (by decide +kernel)
set_option maxRecDepth 20000 in
theorem gX6_on_X6_condition : GoodIn wsX6_on (wsV RX6 155 RX6 yX6_condition wsX6_condition) := goodIn_app (goodIn_of _ (by decide +kernel)) ggX6_on_X6_condition
set_option maxRecDepth 20000 in
theorem ggX6_on_X6_worthOn : GoodIn wsX6_on wsX6_worthOn := goodIn_r _ [46, 47, 48, 49, 50, 51, 52, 53, 54, 55, 56, 57, 58, 59, 60, 61, 62, 63, 64, 65, 66, 67, 68, 69, 70, 71, 72, 73, 74, 75, 76, 77, 78, 79, 80, 81] (by decide +kernel) (by decide +kernel)
set_option maxRecDepth 20000 in
theorem gX6_on_X6_worthOn : GoodIn wsX6_on (wsV RX6 158 RX6 yX6_worthOn wsX6_worthOn) := goodIn_app (goodIn_of _ (by decide +kernel)) ggX6_on_X6_worthOn
theorem dX6_on_0 : decode cX6_on 0 = .ok (.aload_n 0, 1) := by decide +kernel
theorem dX6_on_1 : decode cX6_on 1 = .ok (.iload_n 1, 1) := by decide +kernel
theorem dX6_on_2 : decode cX6_on 2 = .ok (.invokevirtual 133, 3) := by decide +kernel
theorem dX6_on_5 : decode cX6_on 5 = .ok (.ifCond .eq 19, 3) := by decide +kernel
theorem dX6_on_8 : decode cX6_on 8 = .ok (.iload_n 2, 1) := by decide +kernel
theorem dX6_on_9 : decode cX6_on 9 = .ok (.invokestatic 99, 3) := by decide +kernel
theorem dX6_on_12 : decode cX6_on 12 = .ok (.ifCond .eq 12, 3) := by decide +kernel
theorem dX6_on_15 : decode cX6_on 15 = .ok (.iload_n 3, 1) := by decide +kernel
theorem dX6_on_16 : decode cX6_on 16 = .ok (.iconst 0, 1) := by decide +kernel
theorem dX6_on_17 : decode cX6_on 17 = .ok (.iconst 3, 1) := by decide +kernel
theorem dX6_on_18 : decode cX6_on 18 = .ok (.invokestatic 92, 3) := by decide +kernel
theorem dX6_on_21 : decode cX6_on 21 = .ok (.ifCond .ne 5, 3) := by decide +kernel
theorem dX6_on_24 : decode cX6_on 24 = .ok (.iconst (-1), 1) := by decide +kernel
theorem dX6_on_25 : decode cX6_on 25 = .ok (.ireturn, 1) := by decide +kernel
theorem dX6_on_26 : decode cX6_on 26 = .ok (.iconst 0, 1) := by decide +kernel
theorem dX6_on_27 : decode cX6_on 27 = .ok (.istore 4, 2) := by decide +kernel
theorem dX6_on_29 : decode cX6_on 29 = .ok (.bipush 16, 2) := by decide +kernel
theorem dX6_on_31 : decode cX6_on 31 = .ok (.iload_n 1, 1) := by decide +kernel
theorem dX6_on_32 : decode cX6_on 32 = .ok (.imul, 1) := by decide +kernel
theorem dX6_on_33 : decode cX6_on 33 = .ok (.istore 5, 2) := by decide +kernel
theorem dX6_on_35 : decode cX6_on 35 = .ok (.iload 5, 2) := by decide +kernel
theorem dX6_on_37 : decode cX6_on 37 = .ok (.bipush 16, 2) := by decide +kernel
theorem dX6_on_39 : decode cX6_on 39 = .ok (.iload_n 1, 1) := by decide +kernel
theorem dX6_on_40 : decode cX6_on 40 = .ok (.imul, 1) := by decide +kernel
theorem dX6_on_41 : decode cX6_on 41 = .ok (.aload_n 0, 1) := by decide +kernel
theorem dX6_on_42 : decode cX6_on 42 = .ok (.getfield 56, 3) := by decide +kernel
theorem dX6_on_45 : decode cX6_on 45 = .ok (.iload_n 1, 1) := by decide +kernel
theorem dX6_on_46 : decode cX6_on 46 = .ok (.iaload, 1) := by decide +kernel
theorem dX6_on_47 : decode cX6_on 47 = .ok (.iadd, 1) := by decide +kernel
theorem dX6_on_48 : decode cX6_on 48 = .ok (.if_icmp .ge 45, 3) := by decide +kernel
theorem dX6_on_51 : decode cX6_on 51 = .ok (.iload 4, 2) := by decide +kernel
theorem dX6_on_53 : decode cX6_on 53 = .ok (.aload_n 0, 1) := by decide +kernel
theorem dX6_on_54 : decode cX6_on 54 = .ok (.iload_n 1, 1) := by decide +kernel
theorem dX6_on_55 : decode cX6_on 55 = .ok (.iload 5, 2) := by decide +kernel
theorem dX6_on_57 : decode cX6_on 57 = .ok (.iload_n 2, 1) := by decide +kernel
theorem dX6_on_58 : decode cX6_on 58 = .ok (.invokevirtual 139, 3) := by decide +kernel
theorem dX6_on_61 : decode cX6_on 61 = .ok (.ifCond .eq 22, 3) := by decide +kernel
theorem dX6_on_64 : decode cX6_on 64 = .ok (.aload_n 0, 1) := by decide +kernel
theorem dX6_on_65 : decode cX6_on 65 = .ok (.getfield 59, 3) := by decide +kernel
theorem dX6_on_68 : decode cX6_on 68 = .ok (.iload 5, 2) := by decide +kernel
theorem dX6_on_70 : decode cX6_on 70 = .ok (.iaload, 1) := by decide +kernel
theorem dX6_on_71 : decode cX6_on 71 = .ok (.iload_n 2, 1) := by decide +kernel
theorem dX6_on_72 : decode cX6_on 72 = .ok (.sipush 1825, 3) := by decide +kernel
theorem dX6_on_75 : decode cX6_on 75 = .ok (.isub, 1) := by decide +kernel
theorem dX6_on_76 : decode cX6_on 76 = .ok (.if_icmp .lt 7, 3) := by decide +kernel
theorem dX6_on_79 : decode cX6_on 79 = .ok (.iconst 1, 1) := by decide +kernel
theorem dX6_on_80 : decode cX6_on 80 = .ok (.goto 4, 3) := by decide +kernel
theorem dX6_on_83 : decode cX6_on 83 = .ok (.iconst 0, 1) := by decide +kernel
theorem dX6_on_84 : decode cX6_on 84 = .ok (.iadd, 1) := by decide +kernel
theorem dX6_on_85 : decode cX6_on 85 = .ok (.istore 4, 2) := by decide +kernel
theorem dX6_on_87 : decode cX6_on 87 = .ok (.iinc 5 1, 3) := by decide +kernel
theorem dX6_on_90 : decode cX6_on 90 = .ok (.goto (-55), 3) := by decide +kernel
theorem dX6_on_93 : decode cX6_on 93 = .ok (.iload_n 3, 1) := by decide +kernel
theorem dX6_on_94 : decode cX6_on 94 = .ok (.ifCond .ne 12, 3) := by decide +kernel
theorem dX6_on_97 : decode cX6_on 97 = .ok (.aload_n 0, 1) := by decide +kernel
theorem dX6_on_98 : decode cX6_on 98 = .ok (.iload_n 1, 1) := by decide +kernel
theorem dX6_on_99 : decode cX6_on 99 = .ok (.iload_n 2, 1) := by decide +kernel
theorem dX6_on_100 : decode cX6_on 100 = .ok (.invokevirtual 152, 3) := by decide +kernel
theorem dX6_on_103 : decode cX6_on 103 = .ok (.goto 33, 3) := by decide +kernel
theorem dX6_on_106 : decode cX6_on 106 = .ok (.iload_n 3, 1) := by decide +kernel
theorem dX6_on_107 : decode cX6_on 107 = .ok (.iconst 1, 1) := by decide +kernel
theorem dX6_on_108 : decode cX6_on 108 = .ok (.if_icmp .ne 8, 3) := by decide +kernel
theorem dX6_on_111 : decode cX6_on 111 = .ok (.iload 4, 2) := by decide +kernel
theorem dX6_on_113 : decode cX6_on 113 = .ok (.goto 23, 3) := by decide +kernel
theorem dX6_on_116 : decode cX6_on 116 = .ok (.iload_n 3, 1) := by decide +kernel
theorem dX6_on_117 : decode cX6_on 117 = .ok (.iconst 2, 1) := by decide +kernel
theorem dX6_on_118 : decode cX6_on 118 = .ok (.if_icmp .ne 12, 3) := by decide +kernel
theorem dX6_on_121 : decode cX6_on 121 = .ok (.aload_n 0, 1) := by decide +kernel
theorem dX6_on_122 : decode cX6_on 122 = .ok (.iload_n 1, 1) := by decide +kernel
theorem dX6_on_123 : decode cX6_on 123 = .ok (.iload_n 2, 1) := by decide +kernel
theorem dX6_on_124 : decode cX6_on 124 = .ok (.invokevirtual 155, 3) := by decide +kernel
theorem dX6_on_127 : decode cX6_on 127 = .ok (.goto 9, 3) := by decide +kernel
theorem dX6_on_130 : decode cX6_on 130 = .ok (.aload_n 0, 1) := by decide +kernel
theorem dX6_on_131 : decode cX6_on 131 = .ok (.iload_n 1, 1) := by decide +kernel
theorem dX6_on_132 : decode cX6_on 132 = .ok (.iload_n 2, 1) := by decide +kernel
theorem dX6_on_133 : decode cX6_on 133 = .ok (.invokevirtual 158, 3) := by decide +kernel
theorem dX6_on_136 : decode cX6_on 136 = .ok (.ireturn, 1) := by decide +kernel
set_option maxRecDepth 20000 in
theorem ggX6_lawOf_X6_isFeast : GoodIn wsX6_lawOf wsX6_isFeast := goodIn_r _ [9, 10, 11, 12, 13, 14, 15, 16, 17, 18, 19, 20, 21, 22, 23, 24, 25, 26, 27, 28, 29, 30, 31, 32, 33, 34, 35, 36, 37, 38, 39, 40, 41, 42, 43] (by decide +kernel) (by decide +kernel)
set_option maxRecDepth 20000 in
theorem gX6_lawOf_X6_isFeast : GoodIn wsX6_lawOf (wsV RX6 103 RX6 yX6_isFeast wsX6_isFeast) := goodIn_app (goodIn_of _ (by decide +kernel)) ggX6_lawOf_X6_isFeast
theorem dX6_lawOf_0 : decode cX6_lawOf 0 = .ok (.aload_n 0, 1) := by decide +kernel
theorem dX6_lawOf_1 : decode cX6_lawOf 1 = .ok (.iload_n 2, 1) := by decide +kernel
theorem dX6_lawOf_2 : decode cX6_lawOf 2 = .ok (.invokevirtual 103, 3) := by decide +kernel
theorem dX6_lawOf_5 : decode cX6_lawOf 5 = .ok (.ifCond .eq 8, 3) := by decide +kernel
theorem dX6_lawOf_8 : decode cX6_lawOf 8 = .ok (.bipush 7, 2) := by decide +kernel
theorem dX6_lawOf_10 : decode cX6_lawOf 10 = .ok (.goto 7, 3) := by decide +kernel
theorem dX6_lawOf_13 : decode cX6_lawOf 13 = .ok (.iload_n 2, 1) := by decide +kernel
theorem dX6_lawOf_14 : decode cX6_lawOf 14 = .ok (.bipush 7, 2) := by decide +kernel
theorem dX6_lawOf_16 : decode cX6_lawOf 16 = .ok (.irem, 1) := by decide +kernel
theorem dX6_lawOf_17 : decode cX6_lawOf 17 = .ok (.istore_n 3, 1) := by decide +kernel
theorem dX6_lawOf_18 : decode cX6_lawOf 18 = .ok (.iconst (-1), 1) := by decide +kernel
theorem dX6_lawOf_19 : decode cX6_lawOf 19 = .ok (.istore 4, 2) := by decide +kernel
theorem dX6_lawOf_21 : decode cX6_lawOf 21 = .ok (.iconst 0, 1) := by decide +kernel
theorem dX6_lawOf_22 : decode cX6_lawOf 22 = .ok (.istore 5, 2) := by decide +kernel
theorem dX6_lawOf_24 : decode cX6_lawOf 24 = .ok (.iload 5, 2) := by decide +kernel
theorem dX6_lawOf_26 : decode cX6_lawOf 26 = .ok (.aload_n 0, 1) := by decide +kernel
theorem dX6_lawOf_27 : decode cX6_lawOf 27 = .ok (.getfield 106, 3) := by decide +kernel
theorem dX6_lawOf_30 : decode cX6_lawOf 30 = .ok (.if_icmp .ge 85, 3) := by decide +kernel
theorem dX6_lawOf_33 : decode cX6_lawOf 33 = .ok (.aload_n 0, 1) := by decide +kernel
theorem dX6_lawOf_34 : decode cX6_lawOf 34 = .ok (.getfield 16, 3) := by decide +kernel
theorem dX6_lawOf_37 : decode cX6_lawOf 37 = .ok (.iload 5, 2) := by decide +kernel
theorem dX6_lawOf_39 : decode cX6_lawOf 39 = .ok (.iaload, 1) := by decide +kernel
theorem dX6_lawOf_40 : decode cX6_lawOf 40 = .ok (.iload_n 1, 1) := by decide +kernel
theorem dX6_lawOf_41 : decode cX6_lawOf 41 = .ok (.if_icmp .ne 29, 3) := by decide +kernel
theorem dX6_lawOf_44 : decode cX6_lawOf 44 = .ok (.aload_n 0, 1) := by decide +kernel
theorem dX6_lawOf_45 : decode cX6_lawOf 45 = .ok (.getfield 19, 3) := by decide +kernel
theorem dX6_lawOf_48 : decode cX6_lawOf 48 = .ok (.iload 5, 2) := by decide +kernel
theorem dX6_lawOf_50 : decode cX6_lawOf 50 = .ok (.iaload, 1) := by decide +kernel
theorem dX6_lawOf_51 : decode cX6_lawOf 51 = .ok (.iload_n 3, 1) := by decide +kernel
theorem dX6_lawOf_52 : decode cX6_lawOf 52 = .ok (.if_icmp .ne 18, 3) := by decide +kernel
theorem dX6_lawOf_55 : decode cX6_lawOf 55 = .ok (.aload_n 0, 1) := by decide +kernel
theorem dX6_lawOf_56 : decode cX6_lawOf 56 = .ok (.getfield 13, 3) := by decide +kernel
theorem dX6_lawOf_59 : decode cX6_lawOf 59 = .ok (.iload 5, 2) := by decide +kernel
theorem dX6_lawOf_61 : decode cX6_lawOf 61 = .ok (.iaload, 1) := by decide +kernel
theorem dX6_lawOf_62 : decode cX6_lawOf 62 = .ok (.iload_n 2, 1) := by decide +kernel
theorem dX6_lawOf_63 : decode cX6_lawOf 63 = .ok (.if_icmp .gt 7, 3) := by decide +kernel
theorem dX6_lawOf_66 : decode cX6_lawOf 66 = .ok (.iconst 1, 1) := by decide +kernel
theorem dX6_lawOf_67 : decode cX6_lawOf 67 = .ok (.goto 4, 3) := by decide +kernel
theorem dX6_lawOf_70 : decode cX6_lawOf 70 = .ok (.iconst 0, 1) := by decide +kernel
theorem dX6_lawOf_71 : decode cX6_lawOf 71 = .ok (.istore 6, 2) := by decide +kernel
theorem dX6_lawOf_73 : decode cX6_lawOf 73 = .ok (.iload 6, 2) := by decide +kernel
theorem dX6_lawOf_75 : decode cX6_lawOf 75 = .ok (.ifCond .eq 30, 3) := by decide +kernel
theorem dX6_lawOf_78 : decode cX6_lawOf 78 = .ok (.iload 4, 2) := by decide +kernel
theorem dX6_lawOf_80 : decode cX6_lawOf 80 = .ok (.ifCond .lt 20, 3) := by decide +kernel
theorem dX6_lawOf_83 : decode cX6_lawOf 83 = .ok (.aload_n 0, 1) := by decide +kernel
theorem dX6_lawOf_84 : decode cX6_lawOf 84 = .ok (.getfield 13, 3) := by decide +kernel
theorem dX6_lawOf_87 : decode cX6_lawOf 87 = .ok (.iload 5, 2) := by decide +kernel
theorem dX6_lawOf_89 : decode cX6_lawOf 89 = .ok (.iaload, 1) := by decide +kernel
theorem dX6_lawOf_90 : decode cX6_lawOf 90 = .ok (.aload_n 0, 1) := by decide +kernel
theorem dX6_lawOf_91 : decode cX6_lawOf 91 = .ok (.getfield 13, 3) := by decide +kernel
theorem dX6_lawOf_94 : decode cX6_lawOf 94 = .ok (.iload 4, 2) := by decide +kernel
theorem dX6_lawOf_96 : decode cX6_lawOf 96 = .ok (.iaload, 1) := by decide +kernel
theorem dX6_lawOf_97 : decode cX6_lawOf 97 = .ok (.if_icmp .lt 8, 3) := by decide +kernel
theorem dX6_lawOf_100 : decode cX6_lawOf 100 = .ok (.iload 5, 2) := by decide +kernel
theorem dX6_lawOf_102 : decode cX6_lawOf 102 = .ok (.goto 5, 3) := by decide +kernel
theorem dX6_lawOf_105 : decode cX6_lawOf 105 = .ok (.iload 4, 2) := by decide +kernel
theorem dX6_lawOf_107 : decode cX6_lawOf 107 = .ok (.istore 4, 2) := by decide +kernel
theorem dX6_lawOf_109 : decode cX6_lawOf 109 = .ok (.iinc 5 1, 3) := by decide +kernel
theorem dX6_lawOf_112 : decode cX6_lawOf 112 = .ok (.goto (-88), 3) := by decide +kernel
theorem dX6_lawOf_115 : decode cX6_lawOf 115 = .ok (.iload 4, 2) := by decide +kernel
theorem dX6_lawOf_117 : decode cX6_lawOf 117 = .ok (.ireturn, 1) := by decide +kernel
set_option maxRecDepth 20000 in
theorem ggX6_lawOn_X6_in : GoodIn wsX6_lawOn wsX6_in := goodIn_r _ [6] (by decide +kernel) (by decide +kernel)
set_option maxRecDepth 20000 in
theorem gX6_lawOn_X6_in : GoodIn wsX6_lawOn (va_wsS RX6 92 yX6_in wsX6_in) := goodIn_app (goodIn_of _ (by decide +kernel)) ggX6_lawOn_X6_in
set_option maxRecDepth 20000 in
theorem ggX6_lawOn_X6_isDay : GoodIn wsX6_lawOn wsX6_isDay := goodIn_r _ [9, 3, 4, 5, 6] (by decide +kernel) (by decide +kernel)
set_option maxRecDepth 20000 in
theorem gX6_lawOn_X6_isDay : GoodIn wsX6_lawOn (va_wsS RX6 99 yX6_isDay wsX6_isDay) := goodIn_app (goodIn_of _ (by decide +kernel)) ggX6_lawOn_X6_isDay
set_option maxRecDepth 20000 in
theorem ggX6_lawOn_X6_lawOf : GoodIn wsX6_lawOn wsX6_lawOf := goodIn_r _ [13, 14, 15, 16, 17, 18, 19, 20, 5, 21, 22, 23, 24, 25, 26, 27, 28, 29, 30, 31, 32, 33, 34, 35, 36, 37, 38, 39, 40, 41, 42, 43, 44, 45, 46, 47, 48, 49, 50, 51, 52, 53, 54, 55] (by decide +kernel) (by decide +kernel)
set_option maxRecDepth 20000 in
theorem gX6_lawOn_X6_lawOf : GoodIn wsX6_lawOn (wsV RX6 161 RX6 yX6_lawOf wsX6_lawOf) := goodIn_app (goodIn_of _ (by decide +kernel)) ggX6_lawOn_X6_lawOf
theorem dX6_lawOn_0 : decode cX6_lawOn 0 = .ok (.iload_n 1, 1) := by decide +kernel
theorem dX6_lawOn_1 : decode cX6_lawOn 1 = .ok (.iconst 0, 1) := by decide +kernel
theorem dX6_lawOn_2 : decode cX6_lawOn 2 = .ok (.iconst 2, 1) := by decide +kernel
theorem dX6_lawOn_3 : decode cX6_lawOn 3 = .ok (.invokestatic 92, 3) := by decide +kernel
theorem dX6_lawOn_6 : decode cX6_lawOn 6 = .ok (.ifCond .eq 19, 3) := by decide +kernel
theorem dX6_lawOn_9 : decode cX6_lawOn 9 = .ok (.iload_n 2, 1) := by decide +kernel
theorem dX6_lawOn_10 : decode cX6_lawOn 10 = .ok (.invokestatic 99, 3) := by decide +kernel
theorem dX6_lawOn_13 : decode cX6_lawOn 13 = .ok (.ifCond .eq 12, 3) := by decide +kernel
theorem dX6_lawOn_16 : decode cX6_lawOn 16 = .ok (.iload_n 3, 1) := by decide +kernel
theorem dX6_lawOn_17 : decode cX6_lawOn 17 = .ok (.iconst 0, 1) := by decide +kernel
theorem dX6_lawOn_18 : decode cX6_lawOn 18 = .ok (.iconst 1, 1) := by decide +kernel
theorem dX6_lawOn_19 : decode cX6_lawOn 19 = .ok (.invokestatic 92, 3) := by decide +kernel
theorem dX6_lawOn_22 : decode cX6_lawOn 22 = .ok (.ifCond .ne 5, 3) := by decide +kernel
theorem dX6_lawOn_25 : decode cX6_lawOn 25 = .ok (.iconst (-1), 1) := by decide +kernel
theorem dX6_lawOn_26 : decode cX6_lawOn 26 = .ok (.ireturn, 1) := by decide +kernel
theorem dX6_lawOn_27 : decode cX6_lawOn 27 = .ok (.aload_n 0, 1) := by decide +kernel
theorem dX6_lawOn_28 : decode cX6_lawOn 28 = .ok (.iload_n 1, 1) := by decide +kernel
theorem dX6_lawOn_29 : decode cX6_lawOn 29 = .ok (.iload_n 2, 1) := by decide +kernel
theorem dX6_lawOn_30 : decode cX6_lawOn 30 = .ok (.invokevirtual 161, 3) := by decide +kernel
theorem dX6_lawOn_33 : decode cX6_lawOn 33 = .ok (.istore 4, 2) := by decide +kernel
theorem dX6_lawOn_35 : decode cX6_lawOn 35 = .ok (.iload 4, 2) := by decide +kernel
theorem dX6_lawOn_37 : decode cX6_lawOn 37 = .ok (.ifCond .ge 7, 3) := by decide +kernel
theorem dX6_lawOn_40 : decode cX6_lawOn 40 = .ok (.iconst 0, 1) := by decide +kernel
theorem dX6_lawOn_41 : decode cX6_lawOn 41 = .ok (.goto 24, 3) := by decide +kernel
theorem dX6_lawOn_44 : decode cX6_lawOn 44 = .ok (.iload_n 3, 1) := by decide +kernel
theorem dX6_lawOn_45 : decode cX6_lawOn 45 = .ok (.ifCond .ne 13, 3) := by decide +kernel
theorem dX6_lawOn_48 : decode cX6_lawOn 48 = .ok (.aload_n 0, 1) := by decide +kernel
theorem dX6_lawOn_49 : decode cX6_lawOn 49 = .ok (.getfield 22, 3) := by decide +kernel
theorem dX6_lawOn_52 : decode cX6_lawOn 52 = .ok (.iload 4, 2) := by decide +kernel
theorem dX6_lawOn_54 : decode cX6_lawOn 54 = .ok (.iaload, 1) := by decide +kernel
theorem dX6_lawOn_55 : decode cX6_lawOn 55 = .ok (.goto 10, 3) := by decide +kernel
theorem dX6_lawOn_58 : decode cX6_lawOn 58 = .ok (.aload_n 0, 1) := by decide +kernel
theorem dX6_lawOn_59 : decode cX6_lawOn 59 = .ok (.getfield 25, 3) := by decide +kernel
theorem dX6_lawOn_62 : decode cX6_lawOn 62 = .ok (.iload 4, 2) := by decide +kernel
theorem dX6_lawOn_64 : decode cX6_lawOn 64 = .ok (.iaload, 1) := by decide +kernel
theorem dX6_lawOn_65 : decode cX6_lawOn 65 = .ok (.ireturn, 1) := by decide +kernel
theorem dX6_isOpen_0 : decode cX6_isOpen 0 = .ok (.iload_n 1, 1) := by decide +kernel
theorem dX6_isOpen_1 : decode cX6_isOpen 1 = .ok (.ifCond .lt 27, 3) := by decide +kernel
theorem dX6_isOpen_4 : decode cX6_isOpen 4 = .ok (.iload_n 2, 1) := by decide +kernel
theorem dX6_isOpen_5 : decode cX6_isOpen 5 = .ok (.aload_n 0, 1) := by decide +kernel
theorem dX6_isOpen_6 : decode cX6_isOpen 6 = .ok (.getfield 22, 3) := by decide +kernel
theorem dX6_isOpen_9 : decode cX6_isOpen 9 = .ok (.iload_n 1, 1) := by decide +kernel
theorem dX6_isOpen_10 : decode cX6_isOpen 10 = .ok (.iaload, 1) := by decide +kernel
theorem dX6_isOpen_11 : decode cX6_isOpen 11 = .ok (.if_icmp .lt 17, 3) := by decide +kernel
theorem dX6_isOpen_14 : decode cX6_isOpen 14 = .ok (.iload_n 2, 1) := by decide +kernel
theorem dX6_isOpen_15 : decode cX6_isOpen 15 = .ok (.aload_n 0, 1) := by decide +kernel
theorem dX6_isOpen_16 : decode cX6_isOpen 16 = .ok (.getfield 25, 3) := by decide +kernel
theorem dX6_isOpen_19 : decode cX6_isOpen 19 = .ok (.iload_n 1, 1) := by decide +kernel
theorem dX6_isOpen_20 : decode cX6_isOpen 20 = .ok (.iaload, 1) := by decide +kernel
theorem dX6_isOpen_21 : decode cX6_isOpen 21 = .ok (.if_icmp .ge 7, 3) := by decide +kernel
theorem dX6_isOpen_24 : decode cX6_isOpen 24 = .ok (.iconst 1, 1) := by decide +kernel
theorem dX6_isOpen_25 : decode cX6_isOpen 25 = .ok (.goto 4, 3) := by decide +kernel
theorem dX6_isOpen_28 : decode cX6_isOpen 28 = .ok (.iconst 0, 1) := by decide +kernel
theorem dX6_isOpen_29 : decode cX6_isOpen 29 = .ok (.ireturn, 1) := by decide +kernel
set_option maxRecDepth 20000 in
theorem ggX6_may_X6_isOpen : GoodIn wsX6_may wsX6_isOpen := goodIn_r _ [5, 6, 7, 8, 9, 10, 11, 12, 13, 14, 15, 16, 17, 18, 19, 20, 21, 22, 23, 24, 25, 26, 27, 28, 29, 30, 31, 32, 33, 34, 35, 36, 37, 38, 39] (by decide +kernel) (by decide +kernel)
set_option maxRecDepth 20000 in
theorem gX6_may_X6_isOpen : GoodIn wsX6_may (wsV RX6 164 RX6 yX6_isOpen wsX6_isOpen) := goodIn_app (goodIn_of _ (by decide +kernel)) ggX6_may_X6_isOpen
theorem dX6_may_0 : decode cX6_may 0 = .ok (.iload_n 2, 1) := by decide +kernel
theorem dX6_may_1 : decode cX6_may 1 = .ok (.ifCond .eq 28, 3) := by decide +kernel
theorem dX6_may_4 : decode cX6_may 4 = .ok (.aload_n 0, 1) := by decide +kernel
theorem dX6_may_5 : decode cX6_may 5 = .ok (.iload 5, 2) := by decide +kernel
theorem dX6_may_7 : decode cX6_may 7 = .ok (.iload_n 1, 1) := by decide +kernel
theorem dX6_may_8 : decode cX6_may 8 = .ok (.invokevirtual 164, 3) := by decide +kernel
theorem dX6_may_11 : decode cX6_may 11 = .ok (.ifCond .eq 18, 3) := by decide +kernel
theorem dX6_may_14 : decode cX6_may 14 = .ok (.iload 4, 2) := by decide +kernel
theorem dX6_may_16 : decode cX6_may 16 = .ok (.ifCond .lt 9, 3) := by decide +kernel
theorem dX6_may_19 : decode cX6_may 19 = .ok (.iload_n 1, 1) := by decide +kernel
theorem dX6_may_20 : decode cX6_may 20 = .ok (.iload 4, 2) := by decide +kernel
theorem dX6_may_22 : decode cX6_may 22 = .ok (.if_icmp .ge 7, 3) := by decide +kernel
theorem dX6_may_25 : decode cX6_may 25 = .ok (.iconst 1, 1) := by decide +kernel
theorem dX6_may_26 : decode cX6_may 26 = .ok (.goto 4, 3) := by decide +kernel
theorem dX6_may_29 : decode cX6_may 29 = .ok (.iconst 0, 1) := by decide +kernel
theorem dX6_may_30 : decode cX6_may 30 = .ok (.istore 7, 2) := by decide +kernel
theorem dX6_may_32 : decode cX6_may 32 = .ok (.iload 7, 2) := by decide +kernel
theorem dX6_may_34 : decode cX6_may 34 = .ok (.ifCond .ne 30, 3) := by decide +kernel
theorem dX6_may_37 : decode cX6_may 37 = .ok (.iload_n 2, 1) := by decide +kernel
theorem dX6_may_38 : decode cX6_may 38 = .ok (.ifCond .eq 30, 3) := by decide +kernel
theorem dX6_may_41 : decode cX6_may 41 = .ok (.iload_n 3, 1) := by decide +kernel
theorem dX6_may_42 : decode cX6_may 42 = .ok (.ifCond .eq 26, 3) := by decide +kernel
theorem dX6_may_45 : decode cX6_may 45 = .ok (.iload 4, 2) := by decide +kernel
theorem dX6_may_47 : decode cX6_may 47 = .ok (.ifCond .ge 21, 3) := by decide +kernel
theorem dX6_may_50 : decode cX6_may 50 = .ok (.aload_n 0, 1) := by decide +kernel
theorem dX6_may_51 : decode cX6_may 51 = .ok (.iload 6, 2) := by decide +kernel
theorem dX6_may_53 : decode cX6_may 53 = .ok (.iload_n 1, 1) := by decide +kernel
theorem dX6_may_54 : decode cX6_may 54 = .ok (.sipush 1440, 3) := by decide +kernel
theorem dX6_may_57 : decode cX6_may 57 = .ok (.iadd, 1) := by decide +kernel
theorem dX6_may_58 : decode cX6_may 58 = .ok (.invokevirtual 164, 3) := by decide +kernel
theorem dX6_may_61 : decode cX6_may 61 = .ok (.ifCond .eq 7, 3) := by decide +kernel
theorem dX6_may_64 : decode cX6_may 64 = .ok (.iconst 1, 1) := by decide +kernel
theorem dX6_may_65 : decode cX6_may 65 = .ok (.goto 4, 3) := by decide +kernel
theorem dX6_may_68 : decode cX6_may 68 = .ok (.iconst 0, 1) := by decide +kernel
theorem dX6_may_69 : decode cX6_may 69 = .ok (.ireturn, 1) := by decide +kernel
set_option maxRecDepth 20000 in
theorem ggX6_opens_X6_has : GoodIn wsX6_opens wsX6_has := goodIn_r _ [6, 7, 8, 9, 5, 10, 11, 12, 13, 14, 15, 16, 17, 18, 19, 20, 21, 22, 23, 24, 25, 26, 27, 28, 29, 30, 31, 32, 33, 34, 35, 64, 65, 66, 67, 68, 69, 70, 71, 72, 73, 74, 75, 76, 77, 78, 79, 80, 81, 82, 83, 84, 85, 86, 87, 88, 89, 90, 91, 92, 93, 94, 95] (by decide +kernel) (by decide +kernel)
set_option maxRecDepth 20000 in
theorem gX6_opens_X6_has : GoodIn wsX6_opens (wsV RX6 119 RX6 yX6_has wsX6_has) := goodIn_app (goodIn_of _ (by decide +kernel)) ggX6_opens_X6_has
set_option maxRecDepth 20000 in
theorem ggX6_opens_X6_condition : GoodIn wsX6_opens wsX6_condition := goodIn_r _ [39, 17, 23, 18, 24, 29, 30, 5, 31, 64, 65, 66, 67, 68, 69, 70, 71, 72, 73, 74, 75, 76, 77, 78, 79, 80, 81, 82, 83, 84, 85, 86, 87, 88, 89, 90, 91, 92, 93, 94, 95] (by decide +kernel) (by decide +kernel)
set_option maxRecDepth 20000 in
theorem gX6_opens_X6_condition : GoodIn wsX6_opens (wsV RX6 155 RX6 yX6_condition wsX6_condition) := goodIn_app (goodIn_of _ (by decide +kernel)) ggX6_opens_X6_condition
set_option maxRecDepth 20000 in
theorem ggX6_opens_X6_lawOf : GoodIn wsX6_opens wsX6_lawOf := goodIn_r _ [43, 44, 45, 46, 47, 48, 49, 50, 5, 51, 52, 53, 64, 65, 66, 67, 68, 69, 70, 71, 72, 73, 74, 75, 76, 77, 78, 79, 80, 81, 82, 83, 84, 85, 86, 87, 88, 89, 90, 91, 92, 93, 94, 95] (by decide +kernel) (by decide +kernel)
set_option maxRecDepth 20000 in
theorem gX6_opens_X6_lawOf : GoodIn wsX6_opens (wsV RX6 161 RX6 yX6_lawOf wsX6_lawOf) := goodIn_app (goodIn_of _ (by decide +kernel)) ggX6_opens_X6_lawOf
set_option maxRecDepth 20000 in
theorem ggX6_opens_X6_may : GoodIn wsX6_opens wsX6_may := goodIn_r _ [57, 58, 59, 60, 5, 61, 62, 63, 64, 65, 66, 67, 68, 69, 70, 71, 72, 73, 74, 75, 76, 77, 78, 79, 80, 81, 82, 83, 84, 85, 86, 87, 88, 89, 90, 91, 92, 93, 94, 95] (by decide +kernel) (by decide +kernel)
set_option maxRecDepth 20000 in
theorem gX6_opens_X6_may : GoodIn wsX6_opens (wsV RX6 167 RX6 yX6_may wsX6_may) := goodIn_app (goodIn_of _ (by decide +kernel)) ggX6_opens_X6_may
theorem dX6_opens_0 : decode cX6_opens 0 = .ok (.aload_n 0, 1) := by decide +kernel
theorem dX6_opens_1 : decode cX6_opens 1 = .ok (.iload_n 1, 1) := by decide +kernel
theorem dX6_opens_2 : decode cX6_opens 2 = .ok (.iload_n 2, 1) := by decide +kernel
theorem dX6_opens_3 : decode cX6_opens 3 = .ok (.invokevirtual 119, 3) := by decide +kernel
theorem dX6_opens_6 : decode cX6_opens 6 = .ok (.istore 5, 2) := by decide +kernel
theorem dX6_opens_8 : decode cX6_opens 8 = .ok (.iload_n 2, 1) := by decide +kernel
theorem dX6_opens_9 : decode cX6_opens 9 = .ok (.ifCond .le 18, 3) := by decide +kernel
theorem dX6_opens_12 : decode cX6_opens 12 = .ok (.aload_n 0, 1) := by decide +kernel
theorem dX6_opens_13 : decode cX6_opens 13 = .ok (.iload_n 1, 1) := by decide +kernel
theorem dX6_opens_14 : decode cX6_opens 14 = .ok (.iload_n 2, 1) := by decide +kernel
theorem dX6_opens_15 : decode cX6_opens 15 = .ok (.iconst 1, 1) := by decide +kernel
theorem dX6_opens_16 : decode cX6_opens 16 = .ok (.isub, 1) := by decide +kernel
theorem dX6_opens_17 : decode cX6_opens 17 = .ok (.invokevirtual 119, 3) := by decide +kernel
theorem dX6_opens_20 : decode cX6_opens 20 = .ok (.ifCond .eq 7, 3) := by decide +kernel
theorem dX6_opens_23 : decode cX6_opens 23 = .ok (.iconst 1, 1) := by decide +kernel
theorem dX6_opens_24 : decode cX6_opens 24 = .ok (.goto 4, 3) := by decide +kernel
theorem dX6_opens_27 : decode cX6_opens 27 = .ok (.iconst 0, 1) := by decide +kernel
theorem dX6_opens_28 : decode cX6_opens 28 = .ok (.istore 6, 2) := by decide +kernel
theorem dX6_opens_30 : decode cX6_opens 30 = .ok (.aload_n 0, 1) := by decide +kernel
theorem dX6_opens_31 : decode cX6_opens 31 = .ok (.iload_n 1, 1) := by decide +kernel
theorem dX6_opens_32 : decode cX6_opens 32 = .ok (.iload_n 2, 1) := by decide +kernel
theorem dX6_opens_33 : decode cX6_opens 33 = .ok (.invokevirtual 155, 3) := by decide +kernel
theorem dX6_opens_36 : decode cX6_opens 36 = .ok (.istore 7, 2) := by decide +kernel
theorem dX6_opens_38 : decode cX6_opens 38 = .ok (.aload_n 0, 1) := by decide +kernel
theorem dX6_opens_39 : decode cX6_opens 39 = .ok (.aload_n 0, 1) := by decide +kernel
theorem dX6_opens_40 : decode cX6_opens 40 = .ok (.getfield 50, 3) := by decide +kernel
theorem dX6_opens_43 : decode cX6_opens 43 = .ok (.iload_n 1, 1) := by decide +kernel
theorem dX6_opens_44 : decode cX6_opens 44 = .ok (.iaload, 1) := by decide +kernel
theorem dX6_opens_45 : decode cX6_opens 45 = .ok (.iload_n 2, 1) := by decide +kernel
theorem dX6_opens_46 : decode cX6_opens 46 = .ok (.invokevirtual 161, 3) := by decide +kernel
theorem dX6_opens_49 : decode cX6_opens 49 = .ok (.istore 8, 2) := by decide +kernel
theorem dX6_opens_51 : decode cX6_opens 51 = .ok (.iload_n 2, 1) := by decide +kernel
theorem dX6_opens_52 : decode cX6_opens 52 = .ok (.ifCond .le 19, 3) := by decide +kernel
theorem dX6_opens_55 : decode cX6_opens 55 = .ok (.aload_n 0, 1) := by decide +kernel
theorem dX6_opens_56 : decode cX6_opens 56 = .ok (.aload_n 0, 1) := by decide +kernel
theorem dX6_opens_57 : decode cX6_opens 57 = .ok (.getfield 50, 3) := by decide +kernel
theorem dX6_opens_60 : decode cX6_opens 60 = .ok (.iload_n 1, 1) := by decide +kernel
theorem dX6_opens_61 : decode cX6_opens 61 = .ok (.iaload, 1) := by decide +kernel
theorem dX6_opens_62 : decode cX6_opens 62 = .ok (.iload_n 2, 1) := by decide +kernel
theorem dX6_opens_63 : decode cX6_opens 63 = .ok (.iconst 1, 1) := by decide +kernel
theorem dX6_opens_64 : decode cX6_opens 64 = .ok (.isub, 1) := by decide +kernel
theorem dX6_opens_65 : decode cX6_opens 65 = .ok (.invokevirtual 161, 3) := by decide +kernel
theorem dX6_opens_68 : decode cX6_opens 68 = .ok (.goto 4, 3) := by decide +kernel
theorem dX6_opens_71 : decode cX6_opens 71 = .ok (.iconst (-1), 1) := by decide +kernel
theorem dX6_opens_72 : decode cX6_opens 72 = .ok (.istore 9, 2) := by decide +kernel
theorem dX6_opens_74 : decode cX6_opens 74 = .ok (.iconst 0, 1) := by decide +kernel
theorem dX6_opens_75 : decode cX6_opens 75 = .ok (.istore 10, 2) := by decide +kernel
theorem dX6_opens_77 : decode cX6_opens 77 = .ok (.iload_n 3, 1) := by decide +kernel
theorem dX6_opens_78 : decode cX6_opens 78 = .ok (.istore 11, 2) := by decide +kernel
theorem dX6_opens_80 : decode cX6_opens 80 = .ok (.iload 11, 2) := by decide +kernel
theorem dX6_opens_82 : decode cX6_opens 82 = .ok (.iload 4, 2) := by decide +kernel
theorem dX6_opens_84 : decode cX6_opens 84 = .ok (.if_icmp .gt 38, 3) := by decide +kernel
theorem dX6_opens_87 : decode cX6_opens 87 = .ok (.iload 10, 2) := by decide +kernel
theorem dX6_opens_89 : decode cX6_opens 89 = .ok (.aload_n 0, 1) := by decide +kernel
theorem dX6_opens_90 : decode cX6_opens 90 = .ok (.iload 11, 2) := by decide +kernel
theorem dX6_opens_92 : decode cX6_opens 92 = .ok (.iload 5, 2) := by decide +kernel
theorem dX6_opens_94 : decode cX6_opens 94 = .ok (.iload 6, 2) := by decide +kernel
theorem dX6_opens_96 : decode cX6_opens 96 = .ok (.iload 7, 2) := by decide +kernel
theorem dX6_opens_98 : decode cX6_opens 98 = .ok (.iload 8, 2) := by decide +kernel
theorem dX6_opens_100 : decode cX6_opens 100 = .ok (.iload 9, 2) := by decide +kernel
theorem dX6_opens_102 : decode cX6_opens 102 = .ok (.invokevirtual 167, 3) := by decide +kernel
theorem dX6_opens_105 : decode cX6_opens 105 = .ok (.ifCond .eq 7, 3) := by decide +kernel
theorem dX6_opens_108 : decode cX6_opens 108 = .ok (.iconst 1, 1) := by decide +kernel
theorem dX6_opens_109 : decode cX6_opens 109 = .ok (.goto 4, 3) := by decide +kernel
theorem dX6_opens_112 : decode cX6_opens 112 = .ok (.iconst 0, 1) := by decide +kernel
theorem dX6_opens_113 : decode cX6_opens 113 = .ok (.iadd, 1) := by decide +kernel
theorem dX6_opens_114 : decode cX6_opens 114 = .ok (.istore 10, 2) := by decide +kernel
theorem dX6_opens_116 : decode cX6_opens 116 = .ok (.iinc 11 1, 3) := by decide +kernel
theorem dX6_opens_119 : decode cX6_opens 119 = .ok (.goto (-39), 3) := by decide +kernel
theorem dX6_opens_122 : decode cX6_opens 122 = .ok (.iload 10, 2) := by decide +kernel
theorem dX6_opens_124 : decode cX6_opens 124 = .ok (.ireturn, 1) := by decide +kernel
set_option maxRecDepth 20000 in
theorem ggX6_open_X6_isHouse : GoodIn wsX6_open wsX6_isHouse := goodIn_r _ [5, 6, 7, 8, 4, 9, 76, 77, 78, 79, 80, 81, 82, 83, 84, 85, 86, 87, 88, 89, 90, 91, 92, 93, 94, 95, 96, 97, 98, 99, 100, 101, 102, 103, 104, 105, 106, 107] (by decide +kernel) (by decide +kernel)
set_option maxRecDepth 20000 in
theorem gX6_open_X6_isHouse : GoodIn wsX6_open (wsV RX6 133 RX6 yX6_isHouse wsX6_isHouse) := goodIn_app (goodIn_of _ (by decide +kernel)) ggX6_open_X6_isHouse
set_option maxRecDepth 20000 in
theorem ggX6_open_X6_isDay : GoodIn wsX6_open wsX6_isDay := goodIn_r _ [12, 7, 8, 4, 9] (by decide +kernel) (by decide +kernel)
set_option maxRecDepth 20000 in
theorem gX6_open_X6_isDay : GoodIn wsX6_open (va_wsS RX6 99 yX6_isDay wsX6_isDay) := goodIn_app (goodIn_of _ (by decide +kernel)) ggX6_open_X6_isDay
set_option maxRecDepth 20000 in
theorem ggX6_open_X6_in : GoodIn wsX6_open wsX6_in := goodIn_r _ [9] (by decide +kernel) (by decide +kernel)
set_option maxRecDepth 20000 in
theorem gX6_open_X6_in : GoodIn wsX6_open (va_wsS RX6 92 yX6_in wsX6_in) := goodIn_app (goodIn_of _ (by decide +kernel)) ggX6_open_X6_in
set_option maxRecDepth 20000 in
theorem ggX6_open_X6_opens : GoodIn wsX6_open wsX6_opens := goodIn_r _ [16, 17, 18, 19, 20, 4, 21, 22, 23, 24, 25, 26, 27, 28, 29, 30, 31, 32, 33, 34, 35, 36, 37, 38, 39, 40, 41, 42, 43, 7, 8, 9, 44, 45, 46, 47, 48, 49, 50, 51, 52, 53, 54, 55, 56, 57, 58, 59, 60, 61, 62, 63, 64, 65, 66, 67, 68, 69, 70, 71, 72, 73, 74, 75, 76, 77, 78, 79, 80, 81, 82, 83, 84, 85, 86, 87, 88, 89, 90, 91, 92, 93, 94, 95, 96, 97, 98, 99, 100, 101, 102, 103, 104, 105, 106, 107] (by decide +kernel) (by decide +kernel)
set_option maxRecDepth 20000 in
theorem gX6_open_X6_opens : GoodIn wsX6_open (wsV RX6 171 RX6 yX6_opens wsX6_opens) := goodIn_app (goodIn_of _ (by decide +kernel)) ggX6_open_X6_opens
theorem dX6_open_0 : decode cX6_open 0 = .ok (.aload_n 0, 1) := by decide +kernel
theorem dX6_open_1 : decode cX6_open 1 = .ok (.iload_n 1, 1) := by decide +kernel
theorem dX6_open_2 : decode cX6_open 2 = .ok (.invokevirtual 133, 3) := by decide +kernel
theorem dX6_open_5 : decode cX6_open 5 = .ok (.ifCond .eq 32, 3) := by decide +kernel
