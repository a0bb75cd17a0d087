theorem dX5_event_30 : decode cX5_event 30 = .ok (.iload_n 2, 1) := by decide +kernel
theorem dX5_event_31 : decode cX5_event 31 = .ok (.aload 5, 2) := by decide +kernel
theorem dX5_event_33 : decode cX5_event 33 = .ok (.getfield 103, 3) := by decide +kernel
theorem dX5_event_36 : decode cX5_event 36 = .ok (.if_icmp .lt 14, 3) := by decide +kernel
theorem dX5_event_39 : decode cX5_event 39 = .ok (.aload 5, 2) := by decide +kernel
theorem dX5_event_41 : decode cX5_event 41 = .ok (.iload_n 3, 1) := by decide +kernel
theorem dX5_event_42 : decode cX5_event 42 = .ok (.iload 4, 2) := by decide +kernel
theorem dX5_event_44 : decode cX5_event 44 = .ok (.invokevirtual 106, 3) := by decide +kernel
theorem dX5_event_47 : decode cX5_event 47 = .ok (.ifCond .ne 6, 3) := by decide +kernel
theorem dX5_event_50 : decode cX5_event 50 = .ok (.bipush (-2), 2) := by decide +kernel
theorem dX5_event_52 : decode cX5_event 52 = .ok (.ireturn, 1) := by decide +kernel
theorem dX5_event_53 : decode cX5_event 53 = .ok (.aload 5, 2) := by decide +kernel
theorem dX5_event_55 : decode cX5_event 55 = .ok (.getfield 109, 3) := by decide +kernel
theorem dX5_event_58 : decode cX5_event 58 = .ok (.invokevirtual 67, 3) := by decide +kernel
theorem dX5_event_61 : decode cX5_event 61 = .ok (.bipush 16, 2) := by decide +kernel
theorem dX5_event_63 : decode cX5_event 63 = .ok (.if_icmp .lt 6, 3) := by decide +kernel
theorem dX5_event_66 : decode cX5_event 66 = .ok (.bipush (-3), 2) := by decide +kernel
theorem dX5_event_68 : decode cX5_event 68 = .ok (.ireturn, 1) := by decide +kernel
theorem dX5_event_69 : decode cX5_event 69 = .ok (.aload 5, 2) := by decide +kernel
theorem dX5_event_71 : decode cX5_event 71 = .ok (.iload_n 2, 1) := by decide +kernel
theorem dX5_event_72 : decode cX5_event 72 = .ok (.iload_n 3, 1) := by decide +kernel
theorem dX5_event_73 : decode cX5_event 73 = .ok (.iload 4, 2) := by decide +kernel
theorem dX5_event_75 : decode cX5_event 75 = .ok (.invokevirtual 112, 3) := by decide +kernel
theorem dX5_event_78 : decode cX5_event 78 = .ok (.aload 5, 2) := by decide +kernel
theorem dX5_event_80 : decode cX5_event 80 = .ok (.getfield 109, 3) := by decide +kernel
theorem dX5_event_83 : decode cX5_event 83 = .ok (.invokevirtual 67, 3) := by decide +kernel
theorem dX5_event_86 : decode cX5_event 86 = .ok (.ireturn, 1) := by decide +kernel
set_option maxRecDepth 20000 in
theorem ggX5_worth_X5_houseAt : GoodIn wsX5_worth wsX5_houseAt := goodIn_r _ [14, 15, 16, 17, 18, 19, 20, 21, 22, 23, 24, 25, 26, 27, 28, 29, 30, 31, 32, 33, 34, 35, 36, 37, 38, 39, 117, 118, 119, 120, 121, 122, 123, 124, 125, 126, 127, 128, 129, 130] (by decide +kernel) (by decide +kernel)
set_option maxRecDepth 20000 in
theorem gX5_worth_X5_houseAt : GoodIn wsX5_worth (wsV RX5 96 RX5 yX5_houseAt wsX5_houseAt) := goodIn_app (goodIn_of _ (by decide +kernel)) ggX5_worth_X5_houseAt
set_option maxRecDepth 20000 in
theorem ggX5_worth_X5_isDay : GoodIn wsX5_worth wsX5_isDay := goodIn_r _ [42, 43, 44, 13, 45] (by decide +kernel) (by decide +kernel)
set_option maxRecDepth 20000 in
theorem gX5_worth_X5_isDay : GoodIn wsX5_worth (va_wsS RX5 46 yX5_isDay wsX5_isDay) := goodIn_app (goodIn_of _ (by decide +kernel)) ggX5_worth_X5_isDay
set_option maxRecDepth 20000 in
theorem ggX5_worth_X5_isWorth : GoodIn wsX5_worth wsX5_isWorth := goodIn_r _ [48, 49, 43, 44, 13, 45] (by decide +kernel) (by decide +kernel)
set_option maxRecDepth 20000 in
theorem gX5_worth_X5_isWorth : GoodIn wsX5_worth (va_wsS RX5 83 yX5_isWorth wsX5_isWorth) := goodIn_app (goodIn_of _ (by decide +kernel)) ggX5_worth_X5_isWorth
set_option maxRecDepth 20000 in
theorem ggX5_worth_Jx4a65c_size_8abf5 : GoodIn wsX5_worth wsJx4a65c_size_8abf5 := goodIn_r _ [21, 22, 128, 129, 130] (by decide +kernel) (by decide +kernel)
set_option maxRecDepth 20000 in
theorem gX5_worth_Jx4a65c_size_8abf5 : GoodIn wsX5_worth (wsV RX5 67 RJx4a65c yJx4a65c_size_8abf5 wsJx4a65c_size_8abf5) := goodIn_app (goodIn_of _ (by decide +kernel)) ggX5_worth_Jx4a65c_size_8abf5
set_option maxRecDepth 20000 in
theorem ggX5_worth_X4_init : GoodIn wsX5_worth wsX4_init := goodIn_r _ [52, 53, 54, 55, 56, 57, 115, 116] (by decide +kernel) (by decide +kernel)
set_option maxRecDepth 20000 in
theorem gX5_worth_X4_init : GoodIn wsX5_worth (wsX4_init) := ggX5_worth_X4_init
set_option maxRecDepth 20000 in
theorem ggX5_worth_Jx4a65c_add_9ea2d : GoodIn wsX5_worth wsJx4a65c_add_9ea2d := goodIn_r _ [61, 62, 63, 39, 22, 64, 65, 66, 20, 67, 68, 69, 70, 71, 72, 73, 74, 75, 76, 77, 7, 8, 9, 78, 79, 80, 81, 82, 83, 84, 85, 86, 87, 88, 89, 90, 91, 92, 93, 94, 95, 96, 97, 98, 99, 100, 101, 102, 103, 104, 105, 106, 107, 128, 129, 130] (by decide +kernel) (by decide +kernel)
set_option maxRecDepth 20000 in
theorem gX5_worth_Jx4a65c_add_9ea2d : GoodIn wsX5_worth (wsV RX5 71 RJx4a65c yJx4a65c_add_9ea2d wsJx4a65c_add_9ea2d) := goodIn_app (goodIn_of _ (by decide +kernel)) ggX5_worth_Jx4a65c_add_9ea2d
theorem dX5_worth_0 : decode cX5_worth 0 = .ok (.aload_n 0, 1) := by decide +kernel
theorem dX5_worth_1 : decode cX5_worth 1 = .ok (.iload_n 1, 1) := by decide +kernel
theorem dX5_worth_2 : decode cX5_worth 2 = .ok (.invokevirtual 96, 3) := by decide +kernel
theorem dX5_worth_5 : decode cX5_worth 5 = .ok (.astore 4, 2) := by decide +kernel
theorem dX5_worth_7 : decode cX5_worth 7 = .ok (.aload 4, 2) := by decide +kernel
theorem dX5_worth_9 : decode cX5_worth 9 = .ok (.ifnull 17, 3) := by decide +kernel
theorem dX5_worth_12 : decode cX5_worth 12 = .ok (.iload_n 2, 1) := by decide +kernel
theorem dX5_worth_13 : decode cX5_worth 13 = .ok (.invokestatic 46, 3) := by decide +kernel
theorem dX5_worth_16 : decode cX5_worth 16 = .ok (.ifCond .eq 10, 3) := by decide +kernel
theorem dX5_worth_19 : decode cX5_worth 19 = .ok (.iload_n 3, 1) := by decide +kernel
theorem dX5_worth_20 : decode cX5_worth 20 = .ok (.invokestatic 83, 3) := by decide +kernel
theorem dX5_worth_23 : decode cX5_worth 23 = .ok (.ifCond .ne 5, 3) := by decide +kernel
theorem dX5_worth_26 : decode cX5_worth 26 = .ok (.iconst (-1), 1) := by decide +kernel
theorem dX5_worth_27 : decode cX5_worth 27 = .ok (.ireturn, 1) := by decide +kernel
theorem dX5_worth_28 : decode cX5_worth 28 = .ok (.aload 4, 2) := by decide +kernel
theorem dX5_worth_30 : decode cX5_worth 30 = .ok (.getfield 115, 3) := by decide +kernel
theorem dX5_worth_33 : decode cX5_worth 33 = .ok (.invokevirtual 67, 3) := by decide +kernel
theorem dX5_worth_36 : decode cX5_worth 36 = .ok (.bipush 8, 2) := by decide +kernel
theorem dX5_worth_38 : decode cX5_worth 38 = .ok (.if_icmp .lt 6, 3) := by decide +kernel
theorem dX5_worth_41 : decode cX5_worth 41 = .ok (.bipush (-3), 2) := by decide +kernel
theorem dX5_worth_43 : decode cX5_worth 43 = .ok (.ireturn, 1) := by decide +kernel
theorem dX5_worth_44 : decode cX5_worth 44 = .ok (.aload 4, 2) := by decide +kernel
theorem dX5_worth_46 : decode cX5_worth 46 = .ok (.getfield 115, 3) := by decide +kernel
theorem dX5_worth_49 : decode cX5_worth 49 = .ok (.new 118, 3) := by decide +kernel
theorem dX5_worth_52 : decode cX5_worth 52 = .ok (.dup, 1) := by decide +kernel
theorem dX5_worth_53 : decode cX5_worth 53 = .ok (.iload_n 2, 1) := by decide +kernel
theorem dX5_worth_54 : decode cX5_worth 54 = .ok (.aload 4, 2) := by decide +kernel
theorem dX5_worth_56 : decode cX5_worth 56 = .ok (.getfield 103, 3) := by decide +kernel
theorem dX5_worth_59 : decode cX5_worth 59 = .ok (.invokestatic 120, 3) := by decide +kernel
theorem dX5_worth_62 : decode cX5_worth 62 = .ok (.iload_n 3, 1) := by decide +kernel
theorem dX5_worth_63 : decode cX5_worth 63 = .ok (.invokespecial 126, 3) := by decide +kernel
theorem dX5_worth_66 : decode cX5_worth 66 = .ok (.invokevirtual 71, 3) := by decide +kernel
theorem dX5_worth_69 : decode cX5_worth 69 = .ok (.pop, 1) := by decide +kernel
theorem dX5_worth_70 : decode cX5_worth 70 = .ok (.aload 4, 2) := by decide +kernel
theorem dX5_worth_72 : decode cX5_worth 72 = .ok (.getfield 115, 3) := by decide +kernel
theorem dX5_worth_75 : decode cX5_worth 75 = .ok (.invokevirtual 67, 3) := by decide +kernel
theorem dX5_worth_78 : decode cX5_worth 78 = .ok (.ireturn, 1) := by decide +kernel
set_option maxRecDepth 20000 in
theorem ggX5_on_X5_houseAt : GoodIn wsX5_on wsX5_houseAt := goodIn_r _ [5, 6, 7, 8, 9, 10, 11, 12, 13, 14, 15, 16, 17, 18, 19, 20, 21, 22, 23, 24, 25, 26, 27, 28, 29, 30, 93, 94, 95, 96, 97, 98, 99, 100, 101, 102, 103, 104, 105, 106] (by decide +kernel) (by decide +kernel)
set_option maxRecDepth 20000 in
theorem gX5_on_X5_houseAt : GoodIn wsX5_on (wsV RX5 96 RX5 yX5_houseAt wsX5_houseAt) := goodIn_app (goodIn_of _ (by decide +kernel)) ggX5_on_X5_houseAt
set_option maxRecDepth 20000 in
theorem ggX5_on_X5_isDay : GoodIn wsX5_on wsX5_isDay := goodIn_r _ [33, 34, 35, 4, 36] (by decide +kernel) (by decide +kernel)
set_option maxRecDepth 20000 in
theorem gX5_on_X5_isDay : GoodIn wsX5_on (va_wsS RX5 46 yX5_isDay wsX5_isDay) := goodIn_app (goodIn_of _ (by decide +kernel)) ggX5_on_X5_isDay
set_option maxRecDepth 20000 in
theorem ggX5_on_X1_stateOn : GoodIn wsX5_on wsX1_stateOn := goodIn_r _ [41, 42, 43, 44, 45, 46, 47, 48, 49, 50, 40, 51, 52, 53, 54, 55, 56, 9, 10, 11, 12, 13, 57, 15, 16, 17, 18, 19, 20, 21, 22, 23, 24, 25, 26, 27, 28, 29, 30, 58, 59, 60, 61, 62, 63, 64, 65, 66, 67, 68, 69, 70, 35, 4, 36, 71, 72, 73, 74, 107, 108, 109, 110, 111, 112, 113, 114, 115, 116, 117, 104, 105, 106] (by decide +kernel) (by decide +kernel)
set_option maxRecDepth 20000 in
theorem gX5_on_X1_stateOn : GoodIn wsX5_on (wsV RX5 129 RX1 yX1_stateOn wsX1_stateOn) := goodIn_app (goodIn_of _ (by decide +kernel)) ggX5_on_X1_stateOn
set_option maxRecDepth 20000 in
theorem ggX5_on_X1_offencesCounted : GoodIn wsX5_on wsX1_offencesCounted := goodIn_r _ [61, 52, 53, 55, 54, 62, 56, 9, 10, 11, 12, 13, 57, 15, 16, 17, 18, 19, 20, 21, 22, 23, 24, 25, 26, 27, 28, 29, 30, 107, 108, 109, 110, 111, 112, 113, 114, 115, 116, 117, 104, 105, 106] (by decide +kernel) (by decide +kernel)
set_option maxRecDepth 20000 in
theorem gX5_on_X1_offencesCounted : GoodIn wsX5_on (wsV RX5 133 RX1 yX1_offencesCounted wsX1_offencesCounted) := goodIn_app (goodIn_of _ (by decide +kernel)) ggX5_on_X1_offencesCounted
set_option maxRecDepth 20000 in
theorem ggX5_on_X1_conditionOn : GoodIn wsX5_on wsX1_conditionOn := goodIn_r _ [79, 52, 53, 54, 55, 80, 56, 9, 10, 11, 12, 13, 57, 15, 16, 17, 18, 19, 20, 21, 22, 23, 24, 25, 26, 27, 28, 29, 30, 35, 4, 36, 107, 108, 109, 110, 111, 112, 113, 114, 115, 116, 117, 104, 105, 106] (by decide +kernel) (by decide +kernel)
set_option maxRecDepth 20000 in
theorem gX5_on_X1_conditionOn : GoodIn wsX5_on (wsV RX5 136 RX1 yX1_conditionOn wsX1_conditionOn) := goodIn_app (goodIn_of _ (by decide +kernel)) ggX5_on_X1_conditionOn
set_option maxRecDepth 20000 in
theorem ggX5_on_X1_worthOn : GoodIn wsX5_on wsX1_worthOn := goodIn_r _ [84, 85, 86, 87, 88, 89, 90, 91, 11, 92, 13, 57, 15, 16, 17, 18, 19, 20, 21, 22, 23, 24, 25, 26, 27, 28, 29, 30, 56, 9, 10, 12, 35, 4, 36, 107, 108, 109, 110, 111, 112, 113, 118, 119, 104, 105, 106] (by decide +kernel) (by decide +kernel)
set_option maxRecDepth 20000 in
theorem gX5_on_X1_worthOn : GoodIn wsX5_on (wsV RX5 139 RX1 yX1_worthOn wsX1_worthOn) := goodIn_app (goodIn_of _ (by decide +kernel)) ggX5_on_X1_worthOn
theorem dX5_on_0 : decode cX5_on 0 = .ok (.aload_n 0, 1) := by decide +kernel
theorem dX5_on_1 : decode cX5_on 1 = .ok (.iload_n 1, 1) := by decide +kernel
theorem dX5_on_2 : decode cX5_on 2 = .ok (.invokevirtual 96, 3) := by decide +kernel
theorem dX5_on_5 : decode cX5_on 5 = .ok (.astore 4, 2) := by decide +kernel
theorem dX5_on_7 : decode cX5_on 7 = .ok (.aload 4, 2) := by decide +kernel
theorem dX5_on_9 : decode cX5_on 9 = .ok (.ifnull 10, 3) := by decide +kernel
theorem dX5_on_12 : decode cX5_on 12 = .ok (.iload_n 2, 1) := by decide +kernel
theorem dX5_on_13 : decode cX5_on 13 = .ok (.invokestatic 46, 3) := by decide +kernel
theorem dX5_on_16 : decode cX5_on 16 = .ok (.ifCond .ne 5, 3) := by decide +kernel
theorem dX5_on_19 : decode cX5_on 19 = .ok (.iconst (-1), 1) := by decide +kernel
theorem dX5_on_20 : decode cX5_on 20 = .ok (.ireturn, 1) := by decide +kernel
theorem dX5_on_21 : decode cX5_on 21 = .ok (.iload_n 3, 1) := by decide +kernel
theorem dX5_on_22 : decode cX5_on 22 = .ok (.tableswitch 59 0 3 #[30, 37, 45, 52], 30) := by decide +kernel
theorem dX5_on_52 : decode cX5_on 52 = .ok (.aload 4, 2) := by decide +kernel
theorem dX5_on_54 : decode cX5_on 54 = .ok (.iload_n 2, 1) := by decide +kernel
theorem dX5_on_55 : decode cX5_on 55 = .ok (.invokevirtual 129, 3) := by decide +kernel
theorem dX5_on_58 : decode cX5_on 58 = .ok (.ireturn, 1) := by decide +kernel
theorem dX5_on_59 : decode cX5_on 59 = .ok (.aload 4, 2) := by decide +kernel
theorem dX5_on_61 : decode cX5_on 61 = .ok (.iload_n 2, 1) := by decide +kernel
theorem dX5_on_62 : decode cX5_on 62 = .ok (.iload_n 2, 1) := by decide +kernel
theorem dX5_on_63 : decode cX5_on 63 = .ok (.invokevirtual 133, 3) := by decide +kernel
theorem dX5_on_66 : decode cX5_on 66 = .ok (.ireturn, 1) := by decide +kernel
theorem dX5_on_67 : decode cX5_on 67 = .ok (.aload 4, 2) := by decide +kernel
theorem dX5_on_69 : decode cX5_on 69 = .ok (.iload_n 2, 1) := by decide +kernel
theorem dX5_on_70 : decode cX5_on 70 = .ok (.invokevirtual 136, 3) := by decide +kernel
theorem dX5_on_73 : decode cX5_on 73 = .ok (.ireturn, 1) := by decide +kernel
theorem dX5_on_74 : decode cX5_on 74 = .ok (.aload 4, 2) := by decide +kernel
theorem dX5_on_76 : decode cX5_on 76 = .ok (.iload_n 2, 1) := by decide +kernel
theorem dX5_on_77 : decode cX5_on 77 = .ok (.invokevirtual 139, 3) := by decide +kernel
theorem dX5_on_80 : decode cX5_on 80 = .ok (.ireturn, 1) := by decide +kernel
theorem dX5_on_81 : decode cX5_on 81 = .ok (.iconst (-1), 1) := by decide +kernel
theorem dX5_on_82 : decode cX5_on 82 = .ok (.ireturn, 1) := by decide +kernel
set_option maxRecDepth 20000 in
theorem ggX5_open_X5_houseAt : GoodIn wsX5_open wsX5_houseAt := goodIn_r _ [7, 8, 9, 10, 11, 12, 13, 14, 15, 16, 17, 18, 19, 20, 21, 22, 23, 24, 25, 26, 27, 28, 29, 30, 31, 32, 127, 128, 129, 130, 131, 132, 133, 134, 135, 136, 137, 138, 139, 140] (by decide +kernel) (by decide +kernel)
set_option maxRecDepth 20000 in
theorem gX5_open_X5_houseAt : GoodIn wsX5_open (wsV RX5 96 RX5 yX5_houseAt wsX5_houseAt) := goodIn_app (goodIn_of _ (by decide +kernel)) ggX5_open_X5_houseAt
set_option maxRecDepth 20000 in
theorem ggX5_open_X5_isDay : GoodIn wsX5_open wsX5_isDay := goodIn_r _ [35, 36, 37, 6, 38] (by decide +kernel) (by decide +kernel)
set_option maxRecDepth 20000 in
theorem gX5_open_X5_isDay : GoodIn wsX5_open (va_wsS RX5 46 yX5_isDay wsX5_isDay) := goodIn_app (goodIn_of _ (by decide +kernel)) ggX5_open_X5_isDay
set_option maxRecDepth 20000 in
theorem ggX5_open_X5_isIn : GoodIn wsX5_open wsX5_isIn := goodIn_r _ [38] (by decide +kernel) (by decide +kernel)
set_option maxRecDepth 20000 in
theorem gX5_open_X5_isIn : GoodIn wsX5_open (va_wsS RX5 59 yX5_isIn wsX5_isIn) := goodIn_app (goodIn_of _ (by decide +kernel)) ggX5_open_X5_isIn
set_option maxRecDepth 20000 in
theorem ggX5_open_X5_openOverMidnightUntil : GoodIn wsX5_open wsX5_openOverMidnightUntil := goodIn_r _ [42, 1, 43, 44, 45, 46, 47, 48, 49, 50, 51, 52, 53, 54, 55, 56, 57, 58, 11, 12, 13, 14, 15, 59, 17, 18, 19, 20, 21, 22, 23, 24, 25, 26, 27, 28, 29, 30, 31, 32, 37, 6, 38, 60, 61, 62, 63, 64, 65, 66, 67, 68, 69, 70, 71, 72, 73, 74, 75, 76, 77, 78, 79, 80, 81, 82, 83, 84, 85, 86, 87, 88, 89, 90, 91, 92, 93, 94, 95, 96, 97, 98, 99, 100, 101, 102, 103, 104, 105, 106, 107, 108, 109, 10, 16, 115, 116, 117, 118, 119, 120, 121, 122, 123, 124, 125, 126, 141, 142, 143, 144, 138, 139, 140, 127, 128, 129, 130, 131, 132, 133, 134, 135, 136, 137] (by decide +kernel) (by decide +kernel)
set_option maxRecDepth 20000 in
theorem gX5_open_X5_openOverMidnightUntil : GoodIn wsX5_open (wsV RX5 142 RX5 yX5_openOverMidnightUntil wsX5_openOverMidnightUntil) := goodIn_app (goodIn_of _ (by decide +kernel)) ggX5_open_X5_openOverMidnightUntil
set_option maxRecDepth 20000 in
theorem ggX5_open_X5_lawOf : GoodIn wsX5_open wsX5_lawOf := goodIn_r _ [97, 98, 99, 100, 101, 102, 103, 104, 105, 106, 6, 107, 108, 109, 10, 11, 12, 13, 14, 15, 16, 17, 18, 19, 20, 21, 22, 23, 24, 25, 26, 27, 28, 29, 30, 31, 32, 127, 128, 129, 130, 131, 132, 133, 134, 135, 136, 137, 122, 123, 124, 125, 126, 138, 139, 140] (by decide +kernel) (by decide +kernel)
set_option maxRecDepth 20000 in
theorem gX5_open_X5_lawOf : GoodIn wsX5_open (wsV RX5 149 RX5 yX5_lawOf wsX5_lawOf) := goodIn_app (goodIn_of _ (by decide +kernel)) ggX5_open_X5_lawOf
set_option maxRecDepth 20000 in
theorem ggX5_open_X5_openTodayUntil : GoodIn wsX5_open wsX5_openTodayUntil := goodIn_r _ [113, 1, 43, 114, 70, 46, 71, 60, 61, 62, 51, 63, 64, 65, 66, 67, 68, 69, 72, 73, 74, 75, 76, 53, 54, 55, 56, 58, 11, 12, 13, 14, 15, 59, 17, 18, 19, 20, 21, 22, 23, 24, 25, 26, 27, 28, 29, 30, 31, 32, 77, 78, 79, 80, 81, 82, 83, 84, 85, 86, 87, 88, 89, 37, 6, 38, 90, 91, 92, 93, 48, 49, 50, 52, 57, 94, 95, 96, 97, 98, 99, 100, 101, 102, 103, 104, 105, 106, 107, 108, 109, 10, 16, 115, 116, 117, 118, 119, 120, 121, 122, 123, 124, 125, 126, 141, 142, 143, 144, 138, 139, 140, 127, 128, 129, 130, 131, 132, 133, 134, 135, 136, 137] (by decide +kernel) (by decide +kernel)
set_option maxRecDepth 20000 in
theorem gX5_open_X5_openTodayUntil : GoodIn wsX5_open (wsV RX5 156 RX5 yX5_openTodayUntil wsX5_openTodayUntil) := goodIn_app (goodIn_of _ (by decide +kernel)) ggX5_open_X5_openTodayUntil
theorem dX5_open_0 : decode cX5_open 0 = .ok (.aload_n 0, 1) := by decide +kernel
theorem dX5_open_1 : decode cX5_open 1 = .ok (.iload_n 1, 1) := by decide +kernel
theorem dX5_open_2 : decode cX5_open 2 = .ok (.invokevirtual 96, 3) := by decide +kernel
theorem dX5_open_5 : decode cX5_open 5 = .ok (.astore 4, 2) := by decide +kernel
theorem dX5_open_7 : decode cX5_open 7 = .ok (.aload 4, 2) := by decide +kernel
theorem dX5_open_9 : decode cX5_open 9 = .ok (.ifnull 21, 3) := by decide +kernel
theorem dX5_open_12 : decode cX5_open 12 = .ok (.iload_n 2, 1) := by decide +kernel
theorem dX5_open_13 : decode cX5_open 13 = .ok (.invokestatic 46, 3) := by decide +kernel
theorem dX5_open_16 : decode cX5_open 16 = .ok (.ifCond .eq 14, 3) := by decide +kernel
theorem dX5_open_19 : decode cX5_open 19 = .ok (.iload_n 3, 1) := by decide +kernel
theorem dX5_open_20 : decode cX5_open 20 = .ok (.iconst 0, 1) := by decide +kernel
theorem dX5_open_21 : decode cX5_open 21 = .ok (.sipush 1439, 3) := by decide +kernel
theorem dX5_open_24 : decode cX5_open 24 = .ok (.invokestatic 59, 3) := by decide +kernel
theorem dX5_open_27 : decode cX5_open 27 = .ok (.ifCond .ne 5, 3) := by decide +kernel
theorem dX5_open_30 : decode cX5_open 30 = .ok (.iconst (-1), 1) := by decide +kernel
theorem dX5_open_31 : decode cX5_open 31 = .ok (.ireturn, 1) := by decide +kernel
theorem dX5_open_32 : decode cX5_open 32 = .ok (.iload_n 3, 1) := by decide +kernel
theorem dX5_open_33 : decode cX5_open 33 = .ok (.aload_n 0, 1) := by decide +kernel
theorem dX5_open_34 : decode cX5_open 34 = .ok (.aload 4, 2) := by decide +kernel
theorem dX5_open_36 : decode cX5_open 36 = .ok (.iload_n 2, 1) := by decide +kernel
theorem dX5_open_37 : decode cX5_open 37 = .ok (.invokevirtual 142, 3) := by decide +kernel
theorem dX5_open_40 : decode cX5_open 40 = .ok (.if_icmp .ge 5, 3) := by decide +kernel
theorem dX5_open_43 : decode cX5_open 43 = .ok (.iconst 1, 1) := by decide +kernel
theorem dX5_open_44 : decode cX5_open 44 = .ok (.ireturn, 1) := by decide +kernel
theorem dX5_open_45 : decode cX5_open 45 = .ok (.iload_n 3, 1) := by decide +kernel
theorem dX5_open_46 : decode cX5_open 46 = .ok (.aload_n 0, 1) := by decide +kernel
theorem dX5_open_47 : decode cX5_open 47 = .ok (.aload 4, 2) := by decide +kernel
theorem dX5_open_49 : decode cX5_open 49 = .ok (.getfield 146, 3) := by decide +kernel
theorem dX5_open_52 : decode cX5_open 52 = .ok (.iload_n 2, 1) := by decide +kernel
theorem dX5_open_53 : decode cX5_open 53 = .ok (.invokevirtual 149, 3) := by decide +kernel
theorem dX5_open_56 : decode cX5_open 56 = .ok (.getfield 153, 3) := by decide +kernel
theorem dX5_open_59 : decode cX5_open 59 = .ok (.if_icmp .lt 18, 3) := by decide +kernel
theorem dX5_open_62 : decode cX5_open 62 = .ok (.iload_n 3, 1) := by decide +kernel
theorem dX5_open_63 : decode cX5_open 63 = .ok (.aload_n 0, 1) := by decide +kernel
theorem dX5_open_64 : decode cX5_open 64 = .ok (.aload 4, 2) := by decide +kernel
theorem dX5_open_66 : decode cX5_open 66 = .ok (.iload_n 2, 1) := by decide +kernel
theorem dX5_open_67 : decode cX5_open 67 = .ok (.invokevirtual 156, 3) := by decide +kernel
theorem dX5_open_70 : decode cX5_open 70 = .ok (.if_icmp .ge 7, 3) := by decide +kernel
theorem dX5_open_73 : decode cX5_open 73 = .ok (.iconst 1, 1) := by decide +kernel
theorem dX5_open_74 : decode cX5_open 74 = .ok (.goto 4, 3) := by decide +kernel
theorem dX5_open_77 : decode cX5_open 77 = .ok (.iconst 0, 1) := by decide +kernel
theorem dX5_open_78 : decode cX5_open 78 = .ok (.ireturn, 1) := by decide +kernel
set_option maxRecDepth 20000 in
theorem ggX5_minutes_X5_houseAt : GoodIn wsX5_minutes wsX5_houseAt := goodIn_r _ [11, 12, 13, 14, 15, 16, 17, 18, 19, 20, 21, 22, 23, 24, 25, 26, 27, 28, 29, 30, 31, 32, 33, 34, 35, 36, 127, 128, 129, 130, 131, 132, 133, 134, 135, 136, 137, 138, 139, 140] (by decide +kernel) (by decide +kernel)
set_option maxRecDepth 20000 in
theorem gX5_minutes_X5_houseAt : GoodIn wsX5_minutes (wsV RX5 96 RX5 yX5_houseAt wsX5_houseAt) := goodIn_app (goodIn_of _ (by decide +kernel)) ggX5_minutes_X5_houseAt
set_option maxRecDepth 20000 in
theorem ggX5_minutes_X5_isDay : GoodIn wsX5_minutes wsX5_isDay := goodIn_r _ [39, 40, 41, 10, 42] (by decide +kernel) (by decide +kernel)
set_option maxRecDepth 20000 in
theorem gX5_minutes_X5_isDay : GoodIn wsX5_minutes (va_wsS RX5 46 yX5_isDay wsX5_isDay) := goodIn_app (goodIn_of _ (by decide +kernel)) ggX5_minutes_X5_isDay
set_option maxRecDepth 20000 in
theorem ggX5_minutes_X5_openOverMidnightUntil : GoodIn wsX5_minutes wsX5_openOverMidnightUntil := goodIn_r _ [46, 1, 47, 3, 4, 5, 6, 48, 49, 50, 51, 52, 53, 54, 55, 56, 57, 58, 15, 16, 17, 18, 19, 59, 21, 22, 23, 24, 25, 26, 27, 28, 29, 30, 31, 32, 33, 34, 35, 36, 41, 10, 42, 60, 61, 62, 63, 64, 65, 66, 67, 68, 69, 70, 71, 72, 73, 74, 75, 76, 77, 78, 79, 80, 81, 82, 83, 84, 85, 86, 87, 88, 89, 90, 91, 92, 93, 94, 95, 96, 97, 98, 99, 100, 101, 102, 103, 104, 105, 106, 107, 108, 109, 14, 20, 115, 116, 117, 118, 119, 120, 121, 122, 123, 124, 125, 126, 141, 142, 143, 144, 138, 139, 140, 127, 128, 129, 130, 131, 132, 133, 134, 135, 136, 137] (by decide +kernel) (by decide +kernel)
set_option maxRecDepth 20000 in
theorem gX5_minutes_X5_openOverMidnightUntil : GoodIn wsX5_minutes (wsV RX5 142 RX5 yX5_openOverMidnightUntil wsX5_openOverMidnightUntil) := goodIn_app (goodIn_of _ (by decide +kernel)) ggX5_minutes_X5_openOverMidnightUntil
set_option maxRecDepth 20000 in
theorem ggX5_minutes_X5_lawOf : GoodIn wsX5_minutes wsX5_lawOf := goodIn_r _ [97, 98, 99, 100, 101, 102, 103, 104, 105, 106, 10, 107, 108, 109, 14, 15, 16, 17, 18, 19, 20, 21, 22, 23, 24, 25, 26, 27, 28, 29, 30, 31, 32, 33, 34, 35, 36, 127, 128, 129, 130, 131, 132, 133, 134, 135, 136, 137, 122, 123, 124, 125, 126, 138, 139, 140] (by decide +kernel) (by decide +kernel)
set_option maxRecDepth 20000 in
theorem gX5_minutes_X5_lawOf : GoodIn wsX5_minutes (wsV RX5 149 RX5 yX5_lawOf wsX5_lawOf) := goodIn_app (goodIn_of _ (by decide +kernel)) ggX5_minutes_X5_lawOf
set_option maxRecDepth 20000 in
theorem ggX5_minutes_X5_openTodayUntil : GoodIn wsX5_minutes wsX5_openTodayUntil := goodIn_r _ [113, 1, 47, 114, 70, 5, 71, 60, 61, 62, 51, 63, 64, 65, 66, 67, 68, 69, 72, 73, 74, 75, 76, 53, 54, 55, 56, 58, 15, 16, 17, 18, 19, 59, 21, 22, 23, 24, 25, 26, 27, 28, 29, 30, 31, 32, 33, 34, 35, 36, 77, 78, 79, 80, 81, 82, 83, 84, 85, 86, 87, 88, 89, 41, 10, 42, 90, 91, 92, 93, 48, 49, 50, 52, 57, 94, 95, 96, 97, 98, 99, 100, 101, 102, 103, 104, 105, 106, 107, 108, 109, 14, 20, 115, 116, 117, 118, 119, 120, 121, 122, 123, 124, 125, 126, 141, 142, 143, 144, 138, 139, 140, 127, 128, 129, 130, 131, 132, 133, 134, 135, 136, 137] (by decide +kernel) (by decide +kernel)
set_option maxRecDepth 20000 in
theorem gX5_minutes_X5_openTodayUntil : GoodIn wsX5_minutes (wsV RX5 156 RX5 yX5_openTodayUntil wsX5_openTodayUntil) := goodIn_app (goodIn_of _ (by decide +kernel)) ggX5_minutes_X5_openTodayUntil
theorem dX5_minutes_0 : decode cX5_minutes 0 = .ok (.aload_n 0, 1) := by decide +kernel
theorem dX5_minutes_1 : decode cX5_minutes 1 = .ok (.iload_n 1, 1) := by decide +kernel
theorem dX5_minutes_2 : decode cX5_minutes 2 = .ok (.invokevirtual 96, 3) := by decide +kernel
theorem dX5_minutes_5 : decode cX5_minutes 5 = .ok (.astore_n 3, 1) := by decide +kernel
theorem dX5_minutes_6 : decode cX5_minutes 6 = .ok (.aload_n 3, 1) := by decide +kernel
theorem dX5_minutes_7 : decode cX5_minutes 7 = .ok (.ifnull 10, 3) := by decide +kernel
theorem dX5_minutes_10 : decode cX5_minutes 10 = .ok (.iload_n 2, 1) := by decide +kernel
theorem dX5_minutes_11 : decode cX5_minutes 11 = .ok (.invokestatic 46, 3) := by decide +kernel
theorem dX5_minutes_14 : decode cX5_minutes 14 = .ok (.ifCond .ne 5, 3) := by decide +kernel
theorem dX5_minutes_17 : decode cX5_minutes 17 = .ok (.iconst (-1), 1) := by decide +kernel
theorem dX5_minutes_18 : decode cX5_minutes 18 = .ok (.ireturn, 1) := by decide +kernel
theorem dX5_minutes_19 : decode cX5_minutes 19 = .ok (.aload_n 0, 1) := by decide +kernel
theorem dX5_minutes_20 : decode cX5_minutes 20 = .ok (.aload_n 3, 1) := by decide +kernel
theorem dX5_minutes_21 : decode cX5_minutes 21 = .ok (.iload_n 2, 1) := by decide +kernel
theorem dX5_minutes_22 : decode cX5_minutes 22 = .ok (.invokevirtual 142, 3) := by decide +kernel
theorem dX5_minutes_25 : decode cX5_minutes 25 = .ok (.istore 4, 2) := by decide +kernel
theorem dX5_minutes_27 : decode cX5_minutes 27 = .ok (.aload_n 0, 1) := by decide +kernel
theorem dX5_minutes_28 : decode cX5_minutes 28 = .ok (.aload_n 3, 1) := by decide +kernel
theorem dX5_minutes_29 : decode cX5_minutes 29 = .ok (.getfield 146, 3) := by decide +kernel
theorem dX5_minutes_32 : decode cX5_minutes 32 = .ok (.iload_n 2, 1) := by decide +kernel
theorem dX5_minutes_33 : decode cX5_minutes 33 = .ok (.invokevirtual 149, 3) := by decide +kernel
theorem dX5_minutes_36 : decode cX5_minutes 36 = .ok (.getfield 153, 3) := by decide +kernel
theorem dX5_minutes_39 : decode cX5_minutes 39 = .ok (.iload 4, 2) := by decide +kernel
theorem dX5_minutes_41 : decode cX5_minutes 41 = .ok (.invokestatic 120, 3) := by decide +kernel
theorem dX5_minutes_44 : decode cX5_minutes 44 = .ok (.istore 5, 2) := by decide +kernel
theorem dX5_minutes_46 : decode cX5_minutes 46 = .ok (.iload 4, 2) := by decide +kernel
theorem dX5_minutes_48 : decode cX5_minutes 48 = .ok (.iconst 0, 1) := by decide +kernel
theorem dX5_minutes_49 : decode cX5_minutes 49 = .ok (.aload_n 0, 1) := by decide +kernel
theorem dX5_minutes_50 : decode cX5_minutes 50 = .ok (.aload_n 3, 1) := by decide +kernel
theorem dX5_minutes_51 : decode cX5_minutes 51 = .ok (.iload_n 2, 1) := by decide +kernel
theorem dX5_minutes_52 : decode cX5_minutes 52 = .ok (.invokevirtual 156, 3) := by decide +kernel
theorem dX5_minutes_55 : decode cX5_minutes 55 = .ok (.iload 5, 2) := by decide +kernel
theorem dX5_minutes_57 : decode cX5_minutes 57 = .ok (.isub, 1) := by decide +kernel
theorem dX5_minutes_58 : decode cX5_minutes 58 = .ok (.invokestatic 120, 3) := by decide +kernel
theorem dX5_minutes_61 : decode cX5_minutes 61 = .ok (.iadd, 1) := by decide +kernel
theorem dX5_minutes_62 : decode cX5_minutes 62 = .ok (.ireturn, 1) := by decide +kernel
set_option maxRecDepth 20000 in
theorem ggX5_lawOn_X5_isKind : GoodIn wsX5_lawOn wsX5_isKind := goodIn_r _ [6, 7, 8, 5, 9] (by decide +kernel) (by decide +kernel)
set_option maxRecDepth 20000 in
theorem gX5_lawOn_X5_isKind : GoodIn wsX5_lawOn (va_wsS RX5 56 yX5_isKind wsX5_isKind) := goodIn_app (goodIn_of _ (by decide +kernel)) ggX5_lawOn_X5_isKind
set_option maxRecDepth 20000 in
theorem ggX5_lawOn_X5_isDay : GoodIn wsX5_lawOn wsX5_isDay := goodIn_r _ [12, 7, 8, 5, 9] (by decide +kernel) (by decide +kernel)
set_option maxRecDepth 20000 in
theorem gX5_lawOn_X5_isDay : GoodIn wsX5_lawOn (va_wsS RX5 46 yX5_isDay wsX5_isDay) := goodIn_app (goodIn_of _ (by decide +kernel)) ggX5_lawOn_X5_isDay
set_option maxRecDepth 20000 in
theorem ggX5_lawOn_X5_isIn : GoodIn wsX5_lawOn wsX5_isIn := goodIn_r _ [9] (by decide +kernel) (by decide +kernel)
set_option maxRecDepth 20000 in
theorem gX5_lawOn_X5_isIn : GoodIn wsX5_lawOn (va_wsS RX5 59 yX5_isIn wsX5_isIn) := goodIn_app (goodIn_of _ (by decide +kernel)) ggX5_lawOn_X5_isIn
set_option maxRecDepth 20000 in
theorem ggX5_lawOn_X5_lawOf : GoodIn wsX5_lawOn wsX5_lawOf := goodIn_r _ [16, 17, 18, 19, 20, 21, 22, 23, 24, 25, 5, 26, 27, 28, 29, 30, 31, 32, 33, 34, 35, 36, 37, 38, 39, 40, 41, 42, 43, 44, 45, 46, 47, 48, 49, 50, 51, 57, 58, 59, 60, 61, 62, 63, 64, 65, 66, 67, 52, 53, 54, 55, 56, 68, 69, 70] (by decide +kernel) (by decide +kernel)
set_option maxRecDepth 20000 in
theorem gX5_lawOn_X5_lawOf : GoodIn wsX5_lawOn (wsV RX5 149 RX5 yX5_lawOf wsX5_lawOf) := goodIn_app (goodIn_of _ (by decide +kernel)) ggX5_lawOn_X5_lawOf
theorem dX5_lawOn_0 : decode cX5_lawOn 0 = .ok (.iload_n 1, 1) := by decide +kernel
theorem dX5_lawOn_1 : decode cX5_lawOn 1 = .ok (.invokestatic 56, 3) := by decide +kernel
theorem dX5_lawOn_4 : decode cX5_lawOn 4 = .ok (.ifCond .eq 19, 3) := by decide +kernel
theorem dX5_lawOn_7 : decode cX5_lawOn 7 = .ok (.iload_n 2, 1) := by decide +kernel
theorem dX5_lawOn_8 : decode cX5_lawOn 8 = .ok (.invokestatic 46, 3) := by decide +kernel
theorem dX5_lawOn_11 : decode cX5_lawOn 11 = .ok (.ifCond .eq 12, 3) := by decide +kernel
theorem dX5_lawOn_14 : decode cX5_lawOn 14 = .ok (.iload_n 3, 1) := by decide +kernel
theorem dX5_lawOn_15 : decode cX5_lawOn 15 = .ok (.iconst 0, 1) := by decide +kernel
theorem dX5_lawOn_16 : decode cX5_lawOn 16 = .ok (.iconst 1, 1) := by decide +kernel
theorem dX5_lawOn_17 : decode cX5_lawOn 17 = .ok (.invokestatic 59, 3) := by decide +kernel
theorem dX5_lawOn_20 : decode cX5_lawOn 20 = .ok (.ifCond .ne 5, 3) := by decide +kernel
theorem dX5_lawOn_23 : decode cX5_lawOn 23 = .ok (.iconst (-1), 1) := by decide +kernel
theorem dX5_lawOn_24 : decode cX5_lawOn 24 = .ok (.ireturn, 1) := by decide +kernel
theorem dX5_lawOn_25 : decode cX5_lawOn 25 = .ok (.aload_n 0, 1) := by decide +kernel
theorem dX5_lawOn_26 : decode cX5_lawOn 26 = .ok (.iload_n 1, 1) := by decide +kernel
theorem dX5_lawOn_27 : decode cX5_lawOn 27 = .ok (.iload_n 2, 1) := by decide +kernel
theorem dX5_lawOn_28 : decode cX5_lawOn 28 = .ok (.invokevirtual 149, 3) := by decide +kernel
theorem dX5_lawOn_31 : decode cX5_lawOn 31 = .ok (.astore 4, 2) := by decide +kernel
theorem dX5_lawOn_33 : decode cX5_lawOn 33 = .ok (.iload_n 3, 1) := by decide +kernel
theorem dX5_lawOn_34 : decode cX5_lawOn 34 = .ok (.ifCond .ne 11, 3) := by decide +kernel
theorem dX5_lawOn_37 : decode cX5_lawOn 37 = .ok (.aload 4, 2) := by decide +kernel
theorem dX5_lawOn_39 : decode cX5_lawOn 39 = .ok (.getfield 153, 3) := by decide +kernel
theorem dX5_lawOn_42 : decode cX5_lawOn 42 = .ok (.goto 8, 3) := by decide +kernel
theorem dX5_lawOn_45 : decode cX5_lawOn 45 = .ok (.aload 4, 2) := by decide +kernel
theorem dX5_lawOn_47 : decode cX5_lawOn 47 = .ok (.getfield 159, 3) := by decide +kernel
theorem dX5_lawOn_50 : decode cX5_lawOn 50 = .ok (.ireturn, 1) := by decide +kernel
set_option maxRecDepth 20000 in
theorem ggX5_owes_X5_houseAt : GoodIn wsX5_owes wsX5_houseAt := goodIn_r _ [7, 8, 9, 10, 11, 12, 13, 14, 15, 16, 17, 18, 19, 20, 21, 22, 23, 24, 25, 26, 27, 28, 29, 30, 31, 32, 98, 99, 100, 101, 102, 103, 104, 105, 106, 107, 108, 109, 110, 111] (by decide +kernel) (by decide +kernel)
set_option maxRecDepth 20000 in
theorem gX5_owes_X5_houseAt : GoodIn wsX5_owes (wsV RX5 96 RX5 yX5_houseAt wsX5_houseAt) := goodIn_app (goodIn_of _ (by decide +kernel)) ggX5_owes_X5_houseAt
set_option maxRecDepth 20000 in
theorem ggX5_owes_X1_surplusFrom : GoodIn wsX5_owes wsX1_surplusFrom := goodIn_r _ [37, 38, 39, 40, 41, 42, 43, 44, 45, 46, 47, 11, 12, 13, 14, 15, 48, 17, 18, 19, 20, 21, 22, 23, 24, 25, 26, 27, 28, 29, 30, 31, 32, 112, 113, 114, 115, 116, 117, 118, 119, 120, 121, 122, 109, 110, 111] (by decide +kernel) (by decide +kernel)
set_option maxRecDepth 20000 in
theorem gX5_owes_X1_surplusFrom : GoodIn wsX5_owes (wsV RX5 162 RX1 yX1_surplusFrom wsX1_surplusFrom) := goodIn_app (goodIn_of _ (by decide +kernel)) ggX5_owes_X1_surplusFrom
set_option maxRecDepth 20000 in
theorem ggX5_owes_X1_hasLicence : GoodIn wsX5_owes wsX1_hasLicence := goodIn_r _ [52, 53, 54, 55, 36, 56, 57, 43, 44, 45, 46, 38, 58, 59, 60, 61, 39, 40, 41, 42, 47, 11, 12, 13, 14, 15, 48, 17, 18, 19, 20, 21, 22, 23, 24, 25, 26, 27, 28, 29, 30, 31, 32, 62, 63, 64, 65, 66, 67, 68, 69, 70, 71, 72, 73, 74, 75, 6, 76, 77, 34, 35, 37, 112, 113, 114, 115, 116, 117, 118, 119, 120, 121, 122, 109, 110, 111] (by decide +kernel) (by decide +kernel)
set_option maxRecDepth 20000 in
theorem gX5_owes_X1_hasLicence : GoodIn wsX5_owes (wsV RX5 166 RX1 yX1_hasLicence wsX1_hasLicence) := goodIn_app (goodIn_of _ (by decide +kernel)) ggX5_owes_X1_hasLicence
set_option maxRecDepth 20000 in
theorem ggX5_owes_X1_worthOn : GoodIn wsX5_owes wsX1_worthOn := goodIn_r _ [81, 82, 83, 84, 85, 86, 87, 88, 13, 89, 15, 48, 17, 18, 19, 20, 21, 22, 23, 24, 25, 26, 27, 28, 29, 30, 31, 32, 47, 11, 12, 14, 75, 6, 76, 112, 113, 114, 115, 116, 117, 118, 123, 124, 109, 110, 111] (by decide +kernel) (by decide +kernel)
set_option maxRecDepth 20000 in
theorem gX5_owes_X1_worthOn : GoodIn wsX5_owes (wsV RX5 139 RX1 yX1_worthOn wsX1_worthOn) := goodIn_app (goodIn_of _ (by decide +kernel)) ggX5_owes_X1_worthOn
set_option maxRecDepth 20000 in
theorem ggX5_owes_X5_partOf : GoodIn wsX5_owes wsX5_partOf := goodIn_r _ [93, 8, 9, 94, 95, 96, 6, 97, 10, 11, 12, 13, 14, 15, 16, 17, 18, 19, 20, 21, 22, 23, 24, 25, 26, 27, 28, 29, 30, 31, 32, 49, 50, 51, 36, 52, 53, 54, 55, 56, 57, 43, 44, 45, 46, 38, 58, 59, 60, 61, 39, 40, 41, 42, 47, 48, 62, 63, 64, 65, 66, 67, 68, 69, 70, 71, 72, 73, 74, 75, 76, 77, 34, 35, 37, 78, 79, 80, 81, 82, 83, 84, 85, 86, 87, 88, 89, 98, 99, 100, 101, 102, 103, 104, 105, 106, 107, 108, 109, 110, 111, 112, 113, 114, 115, 116, 117, 118, 119, 120, 121, 122, 123, 124] (by decide +kernel) (by decide +kernel)
set_option maxRecDepth 20000 in
theorem gX5_owes_X5_partOf : GoodIn wsX5_owes (wsV RX5 171 RX5 yX5_partOf wsX5_partOf) := goodIn_app (goodIn_of _ (by decide +kernel)) ggX5_owes_X5_partOf
theorem dX5_owes_0 : decode cX5_owes 0 = .ok (.aload_n 0, 1) := by decide +kernel
theorem dX5_owes_1 : decode cX5_owes 1 = .ok (.iload_n 1, 1) := by decide +kernel
theorem dX5_owes_2 : decode cX5_owes 2 = .ok (.invokevirtual 96, 3) := by decide +kernel
theorem dX5_owes_5 : decode cX5_owes 5 = .ok (.astore_n 3, 1) := by decide +kernel
theorem dX5_owes_6 : decode cX5_owes 6 = .ok (.aload_n 0, 1) := by decide +kernel
theorem dX5_owes_7 : decode cX5_owes 7 = .ok (.iload_n 2, 1) := by decide +kernel
theorem dX5_owes_8 : decode cX5_owes 8 = .ok (.invokevirtual 96, 3) := by decide +kernel
theorem dX5_owes_11 : decode cX5_owes 11 = .ok (.astore 4, 2) := by decide +kernel
theorem dX5_owes_13 : decode cX5_owes 13 = .ok (.aload_n 3, 1) := by decide +kernel
theorem dX5_owes_14 : decode cX5_owes 14 = .ok (.ifnull 8, 3) := by decide +kernel
theorem dX5_owes_17 : decode cX5_owes 17 = .ok (.aload 4, 2) := by decide +kernel
theorem dX5_owes_19 : decode cX5_owes 19 = .ok (.ifnonnull 5, 3) := by decide +kernel
theorem dX5_owes_22 : decode cX5_owes 22 = .ok (.iconst (-1), 1) := by decide +kernel
theorem dX5_owes_23 : decode cX5_owes 23 = .ok (.ireturn, 1) := by decide +kernel
theorem dX5_owes_24 : decode cX5_owes 24 = .ok (.aload 4, 2) := by decide +kernel
theorem dX5_owes_26 : decode cX5_owes 26 = .ok (.sipush 3999, 3) := by decide +kernel
theorem dX5_owes_29 : decode cX5_owes 29 = .ok (.invokevirtual 162, 3) := by decide +kernel
theorem dX5_owes_32 : decode cX5_owes 32 = .ok (.istore 5, 2) := by decide +kernel
theorem dX5_owes_34 : decode cX5_owes 34 = .ok (.iload 5, 2) := by decide +kernel
theorem dX5_owes_36 : decode cX5_owes 36 = .ok (.ldc 165, 2) := by decide +kernel
theorem dX5_owes_38 : decode cX5_owes 38 = .ok (.if_icmp .ne 6, 3) := by decide +kernel
theorem dX5_owes_41 : decode cX5_owes 41 = .ok (.bipush (-2), 2) := by decide +kernel
theorem dX5_owes_43 : decode cX5_owes 43 = .ok (.ireturn, 1) := by decide +kernel
theorem dX5_owes_44 : decode cX5_owes 44 = .ok (.iload_n 1, 1) := by decide +kernel
theorem dX5_owes_45 : decode cX5_owes 45 = .ok (.iload_n 2, 1) := by decide +kernel
theorem dX5_owes_46 : decode cX5_owes 46 = .ok (.if_icmp .eq 12, 3) := by decide +kernel
theorem dX5_owes_49 : decode cX5_owes 49 = .ok (.aload_n 3, 1) := by decide +kernel
theorem dX5_owes_50 : decode cX5_owes 50 = .ok (.iload 5, 2) := by decide +kernel
theorem dX5_owes_52 : decode cX5_owes 52 = .ok (.invokevirtual 166, 3) := by decide +kernel
theorem dX5_owes_55 : decode cX5_owes 55 = .ok (.ifCond .ne 5, 3) := by decide +kernel
theorem dX5_owes_58 : decode cX5_owes 58 = .ok (.iconst 0, 1) := by decide +kernel
theorem dX5_owes_59 : decode cX5_owes 59 = .ok (.ireturn, 1) := by decide +kernel
theorem dX5_owes_60 : decode cX5_owes 60 = .ok (.aload_n 0, 1) := by decide +kernel
theorem dX5_owes_61 : decode cX5_owes 61 = .ok (.iload_n 1, 1) := by decide +kernel
theorem dX5_owes_62 : decode cX5_owes 62 = .ok (.aload_n 3, 1) := by decide +kernel
theorem dX5_owes_63 : decode cX5_owes 63 = .ok (.iload 5, 2) := by decide +kernel
theorem dX5_owes_65 : decode cX5_owes 65 = .ok (.invokevirtual 139, 3) := by decide +kernel
theorem dX5_owes_68 : decode cX5_owes 68 = .ok (.iload 5, 2) := by decide +kernel
theorem dX5_owes_70 : decode cX5_owes 70 = .ok (.aload 4, 2) := by decide +kernel
theorem dX5_owes_72 : decode cX5_owes 72 = .ok (.iload 5, 2) := by decide +kernel
theorem dX5_owes_74 : decode cX5_owes 74 = .ok (.invokevirtual 139, 3) := by decide +kernel
theorem dX5_owes_77 : decode cX5_owes 77 = .ok (.i2l, 1) := by decide +kernel
theorem dX5_owes_78 : decode cX5_owes 78 = .ok (.ldc2_w 169, 3) := by decide +kernel
theorem dX5_owes_81 : decode cX5_owes 81 = .ok (.lmul, 1) := by decide +kernel
theorem dX5_owes_82 : decode cX5_owes 82 = .ok (.invokevirtual 171, 3) := by decide +kernel
theorem dX5_owes_85 : decode cX5_owes 85 = .ok (.ireturn, 1) := by decide +kernel
set_option maxRecDepth 20000 in
theorem ggX5_visit_X5_isDay : GoodIn wsX5_visit wsX5_isDay := goodIn_r _ [7, 8, 9, 6, 10] (by decide +kernel) (by decide +kernel)
set_option maxRecDepth 20000 in
theorem gX5_visit_X5_isDay : GoodIn wsX5_visit (va_wsS RX5 46 yX5_isDay wsX5_isDay) := goodIn_app (goodIn_of _ (by decide +kernel)) ggX5_visit_X5_isDay
set_option maxRecDepth 20000 in
theorem ggX5_visit_X5_anyLicence : GoodIn wsX5_visit wsX5_anyLicence := goodIn_r _ [14, 15, 16, 17, 18, 19, 20, 21, 22, 23, 24, 25, 26, 27, 28, 29, 30, 31, 32, 33, 34, 35, 36, 37, 38, 39, 40, 41, 42, 43, 44, 45, 46, 47, 48, 49, 50, 51, 52, 53, 54, 55, 56, 57, 58, 59, 60, 61, 62, 63, 64, 65, 66, 67, 68, 69, 70, 71, 72, 73, 74, 75, 76, 77, 9, 6, 10, 78, 79, 80, 81, 96, 97, 98, 99, 100, 101, 102, 103, 104, 105, 106, 107, 108, 109, 110, 111, 112, 113, 114, 115, 116, 117, 118, 119, 120] (by decide +kernel) (by decide +kernel)
set_option maxRecDepth 20000 in
theorem gX5_visit_X5_anyLicence : GoodIn wsX5_visit (wsV RX5 175 RX5 yX5_anyLicence wsX5_anyLicence) := goodIn_app (goodIn_of _ (by decide +kernel)) ggX5_visit_X5_anyLicence
set_option maxRecDepth 20000 in
theorem ggX5_visit_X5_unvisitedOn : GoodIn wsX5_visit wsX5_unvisitedOn := goodIn_r _ [85, 15, 16, 86, 17, 18, 19, 20, 21, 22, 23, 24, 25, 26, 27, 28, 29, 30, 31, 32, 33, 34, 35, 36, 37, 38, 39, 40, 41, 42, 43, 44, 45, 46, 47, 48, 49, 50, 51, 52, 53, 54, 55, 56, 57, 58, 59, 60, 61, 62, 63, 64, 65, 66, 67, 68, 69, 70, 71, 72, 73, 74, 75, 76, 77, 9, 6, 10, 78, 79, 80, 81, 96, 97, 98, 99, 100, 101, 102, 103, 104, 105, 106, 110, 111, 112, 113, 114, 115, 116, 107, 108, 109, 117, 118, 119, 120] (by decide +kernel) (by decide +kernel)
set_option maxRecDepth 20000 in
theorem gX5_visit_X5_unvisitedOn : GoodIn wsX5_visit (wsV RX5 178 RX5 yX5_unvisitedOn wsX5_unvisitedOn) := goodIn_app (goodIn_of _ (by decide +kernel)) ggX5_visit_X5_unvisitedOn
set_option maxRecDepth 20000 in
theorem ggX5_visit_X5_beginRound : GoodIn wsX5_visit wsX5_beginRound := goodIn_r _ [90, 15, 16, 86, 91, 17, 18, 19, 20, 21, 22, 23, 24, 25, 26, 27, 28, 29, 30, 31, 32, 33, 34, 35, 36, 37, 38, 39, 96, 97, 98, 99, 100, 101, 102, 103, 104, 105, 106, 110, 111, 112, 113, 114, 115, 116, 107, 108, 109] (by decide +kernel) (by decide +kernel)
set_option maxRecDepth 20000 in
theorem gX5_visit_X5_beginRound : GoodIn wsX5_visit (wsV RX5 181 RX5 yX5_beginRound wsX5_beginRound) := goodIn_app (goodIn_of _ (by decide +kernel)) ggX5_visit_X5_beginRound
set_option maxRecDepth 20000 in
theorem ggX5_visit_X5_visitUnvisited : GoodIn wsX5_visit wsX5_visitUnvisited := goodIn_r _ [95, 15, 16, 86, 91, 17, 18, 19, 20, 21, 22, 23, 24, 25, 26, 27, 28, 29, 30, 31, 32, 33, 34, 35, 36, 37, 38, 39, 40, 41, 42, 43, 44, 45, 46, 47, 48, 49, 50, 51, 52, 53, 54, 55, 56, 57, 58, 59, 60, 61, 62, 63, 64, 65, 66, 67, 68, 69, 70, 71, 72, 73, 74, 75, 76, 77, 9, 6, 10, 78, 79, 80, 81, 96, 97, 98, 99, 100, 101, 102, 103, 104, 105, 106, 110, 111, 112, 113, 114, 115, 116, 107, 108, 109, 117, 118, 119, 120] (by decide +kernel) (by decide +kernel)
set_option maxRecDepth 20000 in
theorem gX5_visit_X5_visitUnvisited : GoodIn wsX5_visit (wsV RX5 188 RX5 yX5_visitUnvisited wsX5_visitUnvisited) := goodIn_app (goodIn_of _ (by decide +kernel)) ggX5_visit_X5_visitUnvisited
theorem dX5_visit_0 : decode cX5_visit 0 = .ok (.iload_n 1, 1) := by decide +kernel
theorem dX5_visit_1 : decode cX5_visit 1 = .ok (.invokestatic 46, 3) := by decide +kernel
theorem dX5_visit_4 : decode cX5_visit 4 = .ok (.ifCond .ne 5, 3) := by decide +kernel
theorem dX5_visit_7 : decode cX5_visit 7 = .ok (.iconst (-1), 1) := by decide +kernel
theorem dX5_visit_8 : decode cX5_visit 8 = .ok (.ireturn, 1) := by decide +kernel
theorem dX5_visit_9 : decode cX5_visit 9 = .ok (.aload_n 0, 1) := by decide +kernel
theorem dX5_visit_10 : decode cX5_visit 10 = .ok (.iload_n 1, 1) := by decide +kernel
theorem dX5_visit_11 : decode cX5_visit 11 = .ok (.invokevirtual 175, 3) := by decide +kernel
theorem dX5_visit_14 : decode cX5_visit 14 = .ok (.ifCond .ne 6, 3) := by decide +kernel
theorem dX5_visit_17 : decode cX5_visit 17 = .ok (.bipush (-2), 2) := by decide +kernel
theorem dX5_visit_19 : decode cX5_visit 19 = .ok (.ireturn, 1) := by decide +kernel
theorem dX5_visit_20 : decode cX5_visit 20 = .ok (.aload_n 0, 1) := by decide +kernel
theorem dX5_visit_21 : decode cX5_visit 21 = .ok (.iload_n 1, 1) := by decide +kernel
theorem dX5_visit_22 : decode cX5_visit 22 = .ok (.invokevirtual 178, 3) := by decide +kernel
theorem dX5_visit_25 : decode cX5_visit 25 = .ok (.ifCond .ne 7, 3) := by decide +kernel
theorem dX5_visit_28 : decode cX5_visit 28 = .ok (.aload_n 0, 1) := by decide +kernel
theorem dX5_visit_29 : decode cX5_visit 29 = .ok (.invokevirtual 181, 3) := by decide +kernel
theorem dX5_visit_32 : decode cX5_visit 32 = .ok (.aload_n 0, 1) := by decide +kernel
theorem dX5_visit_33 : decode cX5_visit 33 = .ok (.iload_n 1, 1) := by decide +kernel
theorem dX5_visit_34 : decode cX5_visit 34 = .ok (.invokevirtual 178, 3) := by decide +kernel
theorem dX5_visit_37 : decode cX5_visit 37 = .ok (.istore_n 2, 1) := by decide +kernel
theorem dX5_visit_38 : decode cX5_visit 38 = .ok (.iload_n 2, 1) := by decide +kernel
theorem dX5_visit_39 : decode cX5_visit 39 = .ok (.ifCond .gt 6, 3) := by decide +kernel
theorem dX5_visit_42 : decode cX5_visit 42 = .ok (.bipush (-2), 2) := by decide +kernel
theorem dX5_visit_44 : decode cX5_visit 44 = .ok (.ireturn, 1) := by decide +kernel
theorem dX5_visit_45 : decode cX5_visit 45 = .ok (.aload_n 0, 1) := by decide +kernel
theorem dX5_visit_46 : decode cX5_visit 46 = .ok (.aload_n 0, 1) := by decide +kernel
theorem dX5_visit_47 : decode cX5_visit 47 = .ok (.getfield 42, 3) := by decide +kernel
theorem dX5_visit_50 : decode cX5_visit 50 = .ok (.ldc2_w 184, 3) := by decide +kernel
theorem dX5_visit_53 : decode cX5_visit 53 = .ok (.lmul, 1) := by decide +kernel
theorem dX5_visit_54 : decode cX5_visit 54 = .ok (.ldc2_w 186, 3) := by decide +kernel
theorem dX5_visit_57 : decode cX5_visit 57 = .ok (.lrem, 1) := by decide +kernel
theorem dX5_visit_58 : decode cX5_visit 58 = .ok (.putfield 42, 3) := by decide +kernel
theorem dX5_visit_61 : decode cX5_visit 61 = .ok (.aload_n 0, 1) := by decide +kernel
theorem dX5_visit_62 : decode cX5_visit 62 = .ok (.iload_n 1, 1) := by decide +kernel
theorem dX5_visit_63 : decode cX5_visit 63 = .ok (.aload_n 0, 1) := by decide +kernel
theorem dX5_visit_64 : decode cX5_visit 64 = .ok (.getfield 42, 3) := by decide +kernel
theorem dX5_visit_67 : decode cX5_visit 67 = .ok (.iload_n 2, 1) := by decide +kernel
theorem dX5_visit_68 : decode cX5_visit 68 = .ok (.i2l, 1) := by decide +kernel
theorem dX5_visit_69 : decode cX5_visit 69 = .ok (.lrem, 1) := by decide +kernel
theorem dX5_visit_70 : decode cX5_visit 70 = .ok (.l2i, 1) := by decide +kernel
theorem dX5_visit_71 : decode cX5_visit 71 = .ok (.invokevirtual 188, 3) := by decide +kernel
theorem dX5_visit_74 : decode cX5_visit 74 = .ok (.ireturn, 1) := by decide +kernel
set_option maxRecDepth 20000 in
theorem ggX5_seed_X5_beginRound : GoodIn wsX5_seed wsX5_beginRound := goodIn_r _ [7, 8, 9, 10, 11, 12, 13, 14, 15, 16, 17, 18, 19, 20, 21, 22, 23, 24, 25, 26, 27, 28, 29, 30, 31, 32, 33, 34, 35, 36, 37, 38, 39, 40, 41, 42, 43, 44, 45, 46, 47, 48, 49, 50, 51, 52, 53, 54, 55] (by decide +kernel) (by decide +kernel)
set_option maxRecDepth 20000 in
theorem gX5_seed_X5_beginRound : GoodIn wsX5_seed (wsV RX5 181 RX5 yX5_beginRound wsX5_beginRound) := goodIn_app (goodIn_of _ (by decide +kernel)) ggX5_seed_X5_beginRound
theorem dX5_seed_0 : decode cX5_seed 0 = .ok (.iload_n 1, 1) := by decide +kernel
theorem dX5_seed_1 : decode cX5_seed 1 = .ok (.iconst 1, 1) := by decide +kernel
theorem dX5_seed_2 : decode cX5_seed 2 = .ok (.if_icmp .lt 12, 3) := by decide +kernel
theorem dX5_seed_5 : decode cX5_seed 5 = .ok (.iload_n 1, 1) := by decide +kernel
theorem dX5_seed_6 : decode cX5_seed 6 = .ok (.i2l, 1) := by decide +kernel
theorem dX5_seed_7 : decode cX5_seed 7 = .ok (.ldc2_w 186, 3) := by decide +kernel
theorem dX5_seed_10 : decode cX5_seed 10 = .ok (.lcmp, 1) := by decide +kernel
theorem dX5_seed_11 : decode cX5_seed 11 = .ok (.ifCond .lt 5, 3) := by decide +kernel
theorem dX5_seed_14 : decode cX5_seed 14 = .ok (.iconst (-1), 1) := by decide +kernel
theorem dX5_seed_15 : decode cX5_seed 15 = .ok (.ireturn, 1) := by decide +kernel
theorem dX5_seed_16 : decode cX5_seed 16 = .ok (.aload_n 0, 1) := by decide +kernel
theorem dX5_seed_17 : decode cX5_seed 17 = .ok (.iload_n 1, 1) := by decide +kernel
theorem dX5_seed_18 : decode cX5_seed 18 = .ok (.i2l, 1) := by decide +kernel
theorem dX5_seed_19 : decode cX5_seed 19 = .ok (.putfield 42, 3) := by decide +kernel
theorem dX5_seed_22 : decode cX5_seed 22 = .ok (.aload_n 0, 1) := by decide +kernel
theorem dX5_seed_23 : decode cX5_seed 23 = .ok (.invokevirtual 181, 3) := by decide +kernel
theorem dX5_seed_26 : decode cX5_seed 26 = .ok (.iconst 0, 1) := by decide +kernel
theorem dX5_seed_27 : decode cX5_seed 27 = .ok (.ireturn, 1) := by decide +kernel
set_option maxRecDepth 20000 in
theorem ggX5_count_Jx4a65c_size_8abf5 : GoodIn wsX5_count wsJx4a65c_size_8abf5 := goodIn_r _ [11, 12, 24, 25, 26] (by decide +kernel) (by decide +kernel)
set_option maxRecDepth 20000 in
theorem gX5_count_Jx4a65c_size_8abf5 : GoodIn wsX5_count (wsV RX5 67 RJx4a65c yJx4a65c_size_8abf5 wsJx4a65c_size_8abf5) := goodIn_app (goodIn_of _ (by decide +kernel)) ggX5_count_Jx4a65c_size_8abf5
theorem dX5_count_0 : decode cX5_count 0 = .ok (.iload_n 1, 1) := by decide +kernel
theorem dX5_count_1 : decode cX5_count 1 = .ok (.tableswitch 78 0 5 #[39, 47, 55, 60, 68, 73], 39) := by decide +kernel
theorem dX5_count_40 : decode cX5_count 40 = .ok (.aload_n 0, 1) := by decide +kernel
theorem dX5_count_41 : decode cX5_count 41 = .ok (.getfield 19, 3) := by decide +kernel
theorem dX5_count_44 : decode cX5_count 44 = .ok (.invokevirtual 67, 3) := by decide +kernel
theorem dX5_count_47 : decode cX5_count 47 = .ok (.ireturn, 1) := by decide +kernel
theorem dX5_count_48 : decode cX5_count 48 = .ok (.aload_n 0, 1) := by decide +kernel
theorem dX5_count_49 : decode cX5_count 49 = .ok (.getfield 10, 3) := by decide +kernel
theorem dX5_count_52 : decode cX5_count 52 = .ok (.invokevirtual 67, 3) := by decide +kernel
theorem dX5_count_55 : decode cX5_count 55 = .ok (.ireturn, 1) := by decide +kernel
theorem dX5_count_56 : decode cX5_count 56 = .ok (.aload_n 0, 1) := by decide +kernel
theorem dX5_count_57 : decode cX5_count 57 = .ok (.getfield 53, 3) := by decide +kernel
theorem dX5_count_60 : decode cX5_count 60 = .ok (.ireturn, 1) := by decide +kernel
theorem dX5_count_61 : decode cX5_count 61 = .ok (.aload_n 0, 1) := by decide +kernel
theorem dX5_count_62 : decode cX5_count 62 = .ok (.getfield 16, 3) := by decide +kernel
theorem dX5_count_65 : decode cX5_count 65 = .ok (.invokevirtual 67, 3) := by decide +kernel
theorem dX5_count_68 : decode cX5_count 68 = .ok (.ireturn, 1) := by decide +kernel
theorem dX5_count_69 : decode cX5_count 69 = .ok (.aload_n 0, 1) := by decide +kernel
theorem dX5_count_70 : decode cX5_count 70 = .ok (.getfield 191, 3) := by decide +kernel
theorem dX5_count_73 : decode cX5_count 73 = .ok (.ireturn, 1) := by decide +kernel
theorem dX5_count_74 : decode cX5_count 74 = .ok (.aload_n 0, 1) := by decide +kernel
theorem dX5_count_75 : decode cX5_count 75 = .ok (.getfield 90, 3) := by decide +kernel
theorem dX5_count_78 : decode cX5_count 78 = .ok (.ireturn, 1) := by decide +kernel
theorem dX5_count_79 : decode cX5_count 79 = .ok (.iconst (-1), 1) := by decide +kernel
theorem dX5_count_80 : decode cX5_count 80 = .ok (.ireturn, 1) := by decide +kernel
theorem dX5_isIn_0 : decode cX5_isIn 0 = .ok (.iload_n 0, 1) := by decide +kernel
theorem dX5_isIn_1 : decode cX5_isIn 1 = .ok (.iload_n 1, 1) := by decide +kernel
theorem dX5_isIn_2 : decode cX5_isIn 2 = .ok (.if_icmp .lt 12, 3) := by decide +kernel
theorem dX5_isIn_5 : decode cX5_isIn 5 = .ok (.iload_n 0, 1) := by decide +kernel
theorem dX5_isIn_6 : decode cX5_isIn 6 = .ok (.iload_n 2, 1) := by decide +kernel
theorem dX5_isIn_7 : decode cX5_isIn 7 = .ok (.if_icmp .gt 7, 3) := by decide +kernel
theorem dX5_isIn_10 : decode cX5_isIn 10 = .ok (.iconst 1, 1) := by decide +kernel
theorem dX5_isIn_11 : decode cX5_isIn 11 = .ok (.goto 4, 3) := by decide +kernel
theorem dX5_isIn_14 : decode cX5_isIn 14 = .ok (.iconst 0, 1) := by decide +kernel
theorem dX5_isIn_15 : decode cX5_isIn 15 = .ok (.ireturn, 1) := by decide +kernel
set_option maxRecDepth 20000 in
theorem ggX5_isDay_X5_isIn : GoodIn wsX5_isDay wsX5_isIn := goodIn_r _ [4] (by decide +kernel) (by decide +kernel)
set_option maxRecDepth 20000 in
theorem gX5_isDay_X5_isIn : GoodIn wsX5_isDay (va_wsS RX5 59 yX5_isIn wsX5_isIn) := goodIn_app (goodIn_of _ (by decide +kernel)) ggX5_isDay_X5_isIn
theorem dX5_isDay_0 : decode cX5_isDay 0 = .ok (.iload_n 0, 1) := by decide +kernel
theorem dX5_isDay_1 : decode cX5_isDay 1 = .ok (.iconst 0, 1) := by decide +kernel
theorem dX5_isDay_2 : decode cX5_isDay 2 = .ok (.sipush 3999, 3) := by decide +kernel
theorem dX5_isDay_5 : decode cX5_isDay 5 = .ok (.invokestatic 59, 3) := by decide +kernel
theorem dX5_isDay_8 : decode cX5_isDay 8 = .ok (.ireturn, 1) := by decide +kernel
set_option maxRecDepth 20000 in
theorem ggX5_isKind_X5_isIn : GoodIn wsX5_isKind wsX5_isIn := goodIn_r _ [4] (by decide +kernel) (by decide +kernel)
set_option maxRecDepth 20000 in
theorem gX5_isKind_X5_isIn : GoodIn wsX5_isKind (va_wsS RX5 59 yX5_isIn wsX5_isIn) := goodIn_app (goodIn_of _ (by decide +kernel)) ggX5_isKind_X5_isIn
theorem dX5_isKind_0 : decode cX5_isKind 0 = .ok (.iload_n 0, 1) := by decide +kernel
theorem dX5_isKind_1 : decode cX5_isKind 1 = .ok (.iconst 0, 1) := by decide +kernel
theorem dX5_isKind_2 : decode cX5_isKind 2 = .ok (.iconst 2, 1) := by decide +kernel
theorem dX5_isKind_3 : decode cX5_isKind 3 = .ok (.invokestatic 59, 3) := by decide +kernel
theorem dX5_isKind_6 : decode cX5_isKind 6 = .ok (.ireturn, 1) := by decide +kernel
set_option maxRecDepth 20000 in
theorem ggX5_isPlace_X5_isIn : GoodIn wsX5_isPlace wsX5_isIn := goodIn_r _ [4] (by decide +kernel) (by decide +kernel)
set_option maxRecDepth 20000 in
theorem gX5_isPlace_X5_isIn : GoodIn wsX5_isPlace (va_wsS RX5 59 yX5_isIn wsX5_isIn) := goodIn_app (goodIn_of _ (by decide +kernel)) ggX5_isPlace_X5_isIn
theorem dX5_isPlace_0 : decode cX5_isPlace 0 = .ok (.iload_n 0, 1) := by decide +kernel
theorem dX5_isPlace_1 : decode cX5_isPlace 1 = .ok (.iconst 0, 1) := by decide +kernel
theorem dX5_isPlace_2 : decode cX5_isPlace 2 = .ok (.sipush 999, 3) := by decide +kernel
theorem dX5_isPlace_5 : decode cX5_isPlace 5 = .ok (.invokestatic 59, 3) := by decide +kernel
theorem dX5_isPlace_8 : decode cX5_isPlace 8 = .ok (.ifCond .eq 18, 3) := by decide +kernel
theorem dX5_isPlace_11 : decode cX5_isPlace 11 = .ok (.iload_n 1, 1) := by decide +kernel
theorem dX5_isPlace_12 : decode cX5_isPlace 12 = .ok (.iconst 0, 1) := by decide +kernel
theorem dX5_isPlace_13 : decode cX5_isPlace 13 = .ok (.sipush 999, 3) := by decide +kernel
theorem dX5_isPlace_16 : decode cX5_isPlace 16 = .ok (.invokestatic 59, 3) := by decide +kernel
theorem dX5_isPlace_19 : decode cX5_isPlace 19 = .ok (.ifCond .eq 7, 3) := by decide +kernel
theorem dX5_isPlace_22 : decode cX5_isPlace 22 = .ok (.iconst 1, 1) := by decide +kernel
theorem dX5_isPlace_23 : decode cX5_isPlace 23 = .ok (.goto 4, 3) := by decide +kernel
theorem dX5_isPlace_26 : decode cX5_isPlace 26 = .ok (.iconst 0, 1) := by decide +kernel
theorem dX5_isPlace_27 : decode cX5_isPlace 27 = .ok (.ireturn, 1) := by decide +kernel
set_option maxRecDepth 20000 in
theorem ggX5_isWorth_X5_isIn : GoodIn wsX5_isWorth wsX5_isIn := goodIn_r _ [5] (by decide +kernel) (by decide +kernel)
set_option maxRecDepth 20000 in
theorem gX5_isWorth_X5_isIn : GoodIn wsX5_isWorth (va_wsS RX5 59 yX5_isIn wsX5_isIn) := goodIn_app (goodIn_of _ (by decide +kernel)) ggX5_isWorth_X5_isIn
theorem dX5_isWorth_0 : decode cX5_isWorth 0 = .ok (.iload_n 0, 1) := by decide +kernel
theorem dX5_isWorth_1 : decode cX5_isWorth 1 = .ok (.iconst 1, 1) := by decide +kernel
theorem dX5_isWorth_2 : decode cX5_isWorth 2 = .ok (.ldc 194, 2) := by decide +kernel
theorem dX5_isWorth_4 : decode cX5_isWorth 4 = .ok (.invokestatic 59, 3) := by decide +kernel
theorem dX5_isWorth_7 : decode cX5_isWorth 7 = .ok (.ireturn, 1) := by decide +kernel
set_option maxRecDepth 20000 in
theorem ggX5_areHours_X5_isIn : GoodIn wsX5_areHours wsX5_isIn := goodIn_r _ [4] (by decide +kernel) (by decide +kernel)
set_option maxRecDepth 20000 in
theorem gX5_areHours_X5_isIn : GoodIn wsX5_areHours (va_wsS RX5 59 yX5_isIn wsX5_isIn) := goodIn_app (goodIn_of _ (by decide +kernel)) ggX5_areHours_X5_isIn
theorem dX5_areHours_0 : decode cX5_areHours 0 = .ok (.iload_n 0, 1) := by decide +kernel
theorem dX5_areHours_1 : decode cX5_areHours 1 = .ok (.ifCond .ne 11, 3) := by decide +kernel
theorem dX5_areHours_4 : decode cX5_areHours 4 = .ok (.iload_n 1, 1) := by decide +kernel
theorem dX5_areHours_5 : decode cX5_areHours 5 = .ok (.ifCond .ne 7, 3) := by decide +kernel
theorem dX5_areHours_8 : decode cX5_areHours 8 = .ok (.iconst 1, 1) := by decide +kernel
theorem dX5_areHours_9 : decode cX5_areHours 9 = .ok (.goto 4, 3) := by decide +kernel
theorem dX5_areHours_12 : decode cX5_areHours 12 = .ok (.iconst 0, 1) := by decide +kernel
theorem dX5_areHours_13 : decode cX5_areHours 13 = .ok (.istore_n 2, 1) := by decide +kernel
theorem dX5_areHours_14 : decode cX5_areHours 14 = .ok (.iload_n 2, 1) := by decide +kernel
theorem dX5_areHours_15 : decode cX5_areHours 15 = .ok (.ifCond .ne 27, 3) := by decide +kernel
theorem dX5_areHours_18 : decode cX5_areHours 18 = .ok (.iload_n 0, 1) := by decide +kernel
theorem dX5_areHours_19 : decode cX5_areHours 19 = .ok (.iconst 0, 1) := by decide +kernel
theorem dX5_areHours_20 : decode cX5_areHours 20 = .ok (.sipush 1439, 3) := by decide +kernel
theorem dX5_areHours_23 : decode cX5_areHours 23 = .ok (.invokestatic 59, 3) := by decide +kernel
theorem dX5_areHours_26 : decode cX5_areHours 26 = .ok (.ifCond .eq 20, 3) := by decide +kernel
theorem dX5_areHours_29 : decode cX5_areHours 29 = .ok (.iload_n 1, 1) := by decide +kernel
theorem dX5_areHours_30 : decode cX5_areHours 30 = .ok (.iload_n 0, 1) := by decide +kernel
theorem dX5_areHours_31 : decode cX5_areHours 31 = .ok (.iconst 1, 1) := by decide +kernel
theorem dX5_areHours_32 : decode cX5_areHours 32 = .ok (.iadd, 1) := by decide +kernel
theorem dX5_areHours_33 : decode cX5_areHours 33 = .ok (.sipush 1800, 3) := by decide +kernel
theorem dX5_areHours_36 : decode cX5_areHours 36 = .ok (.invokestatic 59, 3) := by decide +kernel
theorem dX5_areHours_39 : decode cX5_areHours 39 = .ok (.ifCond .eq 7, 3) := by decide +kernel
theorem dX5_areHours_42 : decode cX5_areHours 42 = .ok (.iconst 1, 1) := by decide +kernel
theorem dX5_areHours_43 : decode cX5_areHours 43 = .ok (.goto 4, 3) := by decide +kernel
theorem dX5_areHours_46 : decode cX5_areHours 46 = .ok (.iconst 0, 1) := by decide +kernel
theorem dX5_areHours_47 : decode cX5_areHours 47 = .ok (.ireturn, 1) := by decide +kernel
set_option maxRecDepth 20000 in
theorem ggX5_isEvent_X5_isIn : GoodIn wsX5_isEvent wsX5_isIn := goodIn_r _ [4] (by decide +kernel) (by decide +kernel)
set_option maxRecDepth 20000 in
theorem gX5_isEvent_X5_isIn : GoodIn wsX5_isEvent (va_wsS RX5 59 yX5_isIn wsX5_isIn) := goodIn_app (goodIn_of _ (by decide +kernel)) ggX5_isEvent_X5_isIn
theorem dX5_isEvent_0 : decode cX5_isEvent 0 = .ok (.iload_n 0, 1) := by decide +kernel
theorem dX5_isEvent_1 : decode cX5_isEvent 1 = .ok (.tableswitch 52 0 4 #[35, 35, 52, 52, 43], 35) := by decide +kernel
theorem dX5_isEvent_36 : decode cX5_isEvent 36 = .ok (.iload_n 1, 1) := by decide +kernel
theorem dX5_isEvent_37 : decode cX5_isEvent 37 = .ok (.iconst 0, 1) := by decide +kernel
theorem dX5_isEvent_38 : decode cX5_isEvent 38 = .ok (.bipush 99, 2) := by decide +kernel
theorem dX5_isEvent_40 : decode cX5_isEvent 40 = .ok (.invokestatic 59, 3) := by decide +kernel
theorem dX5_isEvent_43 : decode cX5_isEvent 43 = .ok (.ireturn, 1) := by decide +kernel
theorem dX5_isEvent_44 : decode cX5_isEvent 44 = .ok (.iload_n 1, 1) := by decide +kernel
theorem dX5_isEvent_45 : decode cX5_isEvent 45 = .ok (.iconst 0, 1) := by decide +kernel
theorem dX5_isEvent_46 : decode cX5_isEvent 46 = .ok (.sipush 1439, 3) := by decide +kernel
theorem dX5_isEvent_49 : decode cX5_isEvent 49 = .ok (.invokestatic 59, 3) := by decide +kernel
theorem dX5_isEvent_52 : decode cX5_isEvent 52 = .ok (.ireturn, 1) := by decide +kernel
theorem dX5_isEvent_53 : decode cX5_isEvent 53 = .ok (.iload_n 0, 1) := by decide +kernel
theorem dX5_isEvent_54 : decode cX5_isEvent 54 = .ok (.iconst 0, 1) := by decide +kernel
theorem dX5_isEvent_55 : decode cX5_isEvent 55 = .ok (.bipush 6, 2) := by decide +kernel
theorem dX5_isEvent_57 : decode cX5_isEvent 57 = .ok (.invokestatic 59, 3) := by decide +kernel
theorem dX5_isEvent_60 : decode cX5_isEvent 60 = .ok (.ireturn, 1) := by decide +kernel
theorem dX5_squareOfDistance_0 : decode cX5_squareOfDistance 0 = .ok (.iload_n 0, 1) := by decide +kernel
theorem dX5_squareOfDistance_1 : decode cX5_squareOfDistance 1 = .ok (.iload_n 2, 1) := by decide +kernel
theorem dX5_squareOfDistance_2 : decode cX5_squareOfDistance 2 = .ok (.isub, 1) := by decide +kernel
theorem dX5_squareOfDistance_3 : decode cX5_squareOfDistance 3 = .ok (.iload_n 0, 1) := by decide +kernel
theorem dX5_squareOfDistance_4 : decode cX5_squareOfDistance 4 = .ok (.iload_n 2, 1) := by decide +kernel
theorem dX5_squareOfDistance_5 : decode cX5_squareOfDistance 5 = .ok (.isub, 1) := by decide +kernel
theorem dX5_squareOfDistance_6 : decode cX5_squareOfDistance 6 = .ok (.imul, 1) := by decide +kernel
theorem dX5_squareOfDistance_7 : decode cX5_squareOfDistance 7 = .ok (.iload_n 1, 1) := by decide +kernel
theorem dX5_squareOfDistance_8 : decode cX5_squareOfDistance 8 = .ok (.iload_n 3, 1) := by decide +kernel
theorem dX5_squareOfDistance_9 : decode cX5_squareOfDistance 9 = .ok (.isub, 1) := by decide +kernel
theorem dX5_squareOfDistance_10 : decode cX5_squareOfDistance 10 = .ok (.iload_n 1, 1) := by decide +kernel
theorem dX5_squareOfDistance_11 : decode cX5_squareOfDistance 11 = .ok (.iload_n 3, 1) := by decide +kernel
theorem dX5_squareOfDistance_12 : decode cX5_squareOfDistance 12 = .ok (.isub, 1) := by decide +kernel
theorem dX5_squareOfDistance_13 : decode cX5_squareOfDistance 13 = .ok (.imul, 1) := by decide +kernel
theorem dX5_squareOfDistance_14 : decode cX5_squareOfDistance 14 = .ok (.iadd, 1) := by decide +kernel
theorem dX5_squareOfDistance_15 : decode cX5_squareOfDistance 15 = .ok (.ireturn, 1) := by decide +kernel
set_option maxRecDepth 20000 in
theorem ggX5_houseAt_Jx4a65c_size_8abf5 : GoodIn wsX5_houseAt wsJx4a65c_size_8abf5 := goodIn_r _ [7, 8, 37, 38, 39] (by decide +kernel) (by decide +kernel)
set_option maxRecDepth 20000 in
theorem gX5_houseAt_Jx4a65c_size_8abf5 : GoodIn wsX5_houseAt (wsV RX5 67 RJx4a65c yJx4a65c_size_8abf5 wsJx4a65c_size_8abf5) := goodIn_app (goodIn_of _ (by decide +kernel)) ggX5_houseAt_Jx4a65c_size_8abf5
set_option maxRecDepth 20000 in
theorem ggX5_houseAt_Jx4a65c_get_915e3 : GoodIn wsX5_houseAt wsJx4a65c_get_915e3 := goodIn_r _ [12, 8, 13, 14, 15, 16, 17, 18, 19, 20, 21, 22, 23, 6, 24, 25, 37, 38, 39] (by decide +kernel) (by decide +kernel)
set_option maxRecDepth 20000 in
theorem gX5_houseAt_Jx4a65c_get_915e3 : GoodIn wsX5_houseAt (wsV RX5 195 RJx4a65c yJx4a65c_get_915e3 wsJx4a65c_get_915e3) := goodIn_app (goodIn_of _ (by decide +kernel)) ggX5_houseAt_Jx4a65c_get_915e3
theorem dX5_houseAt_0 : decode cX5_houseAt 0 = .ok (.iload_n 1, 1) := by decide +kernel
theorem dX5_houseAt_1 : decode cX5_houseAt 1 = .ok (.ifCond .lt 28, 3) := by decide +kernel
theorem dX5_houseAt_4 : decode cX5_houseAt 4 = .ok (.iload_n 1, 1) := by decide +kernel
theorem dX5_houseAt_5 : decode cX5_houseAt 5 = .ok (.aload_n 0, 1) := by decide +kernel
theorem dX5_houseAt_6 : decode cX5_houseAt 6 = .ok (.getfield 19, 3) := by decide +kernel
theorem dX5_houseAt_9 : decode cX5_houseAt 9 = .ok (.invokevirtual 67, 3) := by decide +kernel
theorem dX5_houseAt_12 : decode cX5_houseAt 12 = .ok (.if_icmp .ge 17, 3) := by decide +kernel
theorem dX5_houseAt_15 : decode cX5_houseAt 15 = .ok (.aload_n 0, 1) := by decide +kernel
theorem dX5_houseAt_16 : decode cX5_houseAt 16 = .ok (.getfield 19, 3) := by decide +kernel
theorem dX5_houseAt_19 : decode cX5_houseAt 19 = .ok (.iload_n 1, 1) := by decide +kernel
theorem dX5_houseAt_20 : decode cX5_houseAt 20 = .ok (.invokevirtual 195, 3) := by decide +kernel
theorem dX5_houseAt_23 : decode cX5_houseAt 23 = .ok (.checkcast 93, 3) := by decide +kernel
theorem dX5_houseAt_26 : decode cX5_houseAt 26 = .ok (.goto 4, 3) := by decide +kernel
theorem dX5_houseAt_29 : decode cX5_houseAt 29 = .ok (.aconst_null, 1) := by decide +kernel
theorem dX5_houseAt_30 : decode cX5_houseAt 30 = .ok (.areturn, 1) := by decide +kernel
theorem dX5_isFeast_0 : decode cX5_isFeast 0 = .ok (.iconst 0, 1) := by decide +kernel
theorem dX5_isFeast_1 : decode cX5_isFeast 1 = .ok (.istore_n 2, 1) := by decide +kernel
theorem dX5_isFeast_2 : decode cX5_isFeast 2 = .ok (.iload_n 2, 1) := by decide +kernel
theorem dX5_isFeast_3 : decode cX5_isFeast 3 = .ok (.aload_n 0, 1) := by decide +kernel
theorem dX5_isFeast_4 : decode cX5_isFeast 4 = .ok (.getfield 53, 3) := by decide +kernel
theorem dX5_isFeast_7 : decode cX5_isFeast 7 = .ok (.if_icmp .ge 30, 3) := by decide +kernel
theorem dX5_isFeast_10 : decode cX5_isFeast 10 = .ok (.iload_n 2, 1) := by decide +kernel
theorem dX5_isFeast_11 : decode cX5_isFeast 11 = .ok (.aload_n 0, 1) := by decide +kernel
theorem dX5_isFeast_12 : decode cX5_isFeast 12 = .ok (.getfield 22, 3) := by decide +kernel
theorem dX5_isFeast_15 : decode cX5_isFeast 15 = .ok (.arraylength, 1) := by decide +kernel
theorem dX5_isFeast_16 : decode cX5_isFeast 16 = .ok (.if_icmp .ge 21, 3) := by decide +kernel
theorem dX5_isFeast_19 : decode cX5_isFeast 19 = .ok (.aload_n 0, 1) := by decide +kernel
theorem dX5_isFeast_20 : decode cX5_isFeast 20 = .ok (.getfield 22, 3) := by decide +kernel
theorem dX5_isFeast_23 : decode cX5_isFeast 23 = .ok (.iload_n 2, 1) := by decide +kernel
theorem dX5_isFeast_24 : decode cX5_isFeast 24 = .ok (.iaload, 1) := by decide +kernel
theorem dX5_isFeast_25 : decode cX5_isFeast 25 = .ok (.iload_n 1, 1) := by decide +kernel
theorem dX5_isFeast_26 : decode cX5_isFeast 26 = .ok (.if_icmp .ne 5, 3) := by decide +kernel
theorem dX5_isFeast_29 : decode cX5_isFeast 29 = .ok (.iconst 1, 1) := by decide +kernel
theorem dX5_isFeast_30 : decode cX5_isFeast 30 = .ok (.ireturn, 1) := by decide +kernel
theorem dX5_isFeast_31 : decode cX5_isFeast 31 = .ok (.iinc 2 1, 3) := by decide +kernel
theorem dX5_isFeast_34 : decode cX5_isFeast 34 = .ok (.goto (-32), 3) := by decide +kernel
theorem dX5_isFeast_37 : decode cX5_isFeast 37 = .ok (.iconst 0, 1) := by decide +kernel
theorem dX5_isFeast_38 : decode cX5_isFeast 38 = .ok (.ireturn, 1) := by decide +kernel
set_option maxRecDepth 20000 in
theorem ggX5_lawOf_X5_isFeast : GoodIn wsX5_lawOf wsX5_isFeast := goodIn_r _ [11, 12, 13, 37, 38, 39, 40, 41, 42, 43, 44, 45, 46, 47] (by decide +kernel) (by decide +kernel)
set_option maxRecDepth 20000 in
theorem gX5_lawOf_X5_isFeast : GoodIn wsX5_lawOf (wsV RX5 50 RX5 yX5_isFeast wsX5_isFeast) := goodIn_app (goodIn_of _ (by decide +kernel)) ggX5_lawOf_X5_isFeast
set_option maxRecDepth 20000 in
theorem ggX5_lawOf_Jx4a65c_size_8abf5 : GoodIn wsX5_lawOf wsJx4a65c_size_8abf5 := goodIn_r _ [18, 19, 53, 54, 55] (by decide +kernel) (by decide +kernel)
set_option maxRecDepth 20000 in
theorem gX5_lawOf_Jx4a65c_size_8abf5 : GoodIn wsX5_lawOf (wsV RX5 67 RJx4a65c yJx4a65c_size_8abf5 wsJx4a65c_size_8abf5) := goodIn_app (goodIn_of _ (by decide +kernel)) ggX5_lawOf_Jx4a65c_size_8abf5
set_option maxRecDepth 20000 in
theorem ggX5_lawOf_Jx4a65c_get_915e3 : GoodIn wsX5_lawOf wsJx4a65c_get_915e3 := goodIn_r _ [23, 19, 24, 25, 26, 27, 28, 29, 30, 31, 32, 33, 34, 17, 35, 36, 53, 54, 55] (by decide +kernel) (by decide +kernel)
set_option maxRecDepth 20000 in
theorem gX5_lawOf_Jx4a65c_get_915e3 : GoodIn wsX5_lawOf (wsV RX5 195 RJx4a65c yJx4a65c_get_915e3 wsJx4a65c_get_915e3) := goodIn_app (goodIn_of _ (by decide +kernel)) ggX5_lawOf_Jx4a65c_get_915e3
theorem dX5_lawOf_0 : decode cX5_lawOf 0 = .ok (.aload_n 0, 1) := by decide +kernel
theorem dX5_lawOf_1 : decode cX5_lawOf 1 = .ok (.iload_n 2, 1) := by decide +kernel
theorem dX5_lawOf_2 : decode cX5_lawOf 2 = .ok (.invokevirtual 50, 3) := by decide +kernel
theorem dX5_lawOf_5 : decode cX5_lawOf 5 = .ok (.ifCond .eq 8, 3) := by decide +kernel
theorem dX5_lawOf_8 : decode cX5_lawOf 8 = .ok (.bipush 7, 2) := by decide +kernel
theorem dX5_lawOf_10 : decode cX5_lawOf 10 = .ok (.goto 7, 3) := by decide +kernel
theorem dX5_lawOf_13 : decode cX5_lawOf 13 = .ok (.iload_n 2, 1) := by decide +kernel
theorem dX5_lawOf_14 : decode cX5_lawOf 14 = .ok (.bipush 7, 2) := by decide +kernel
theorem dX5_lawOf_16 : decode cX5_lawOf 16 = .ok (.irem, 1) := by decide +kernel
theorem dX5_lawOf_17 : decode cX5_lawOf 17 = .ok (.istore_n 3, 1) := by decide +kernel
theorem dX5_lawOf_18 : decode cX5_lawOf 18 = .ok (.aload_n 0, 1) := by decide +kernel
theorem dX5_lawOf_19 : decode cX5_lawOf 19 = .ok (.getfield 31, 3) := by decide +kernel
theorem dX5_lawOf_22 : decode cX5_lawOf 22 = .ok (.astore 4, 2) := by decide +kernel
theorem dX5_lawOf_24 : decode cX5_lawOf 24 = .ok (.iconst 0, 1) := by decide +kernel
theorem dX5_lawOf_25 : decode cX5_lawOf 25 = .ok (.istore 5, 2) := by decide +kernel
theorem dX5_lawOf_27 : decode cX5_lawOf 27 = .ok (.iload 5, 2) := by decide +kernel
theorem dX5_lawOf_29 : decode cX5_lawOf 29 = .ok (.aload_n 0, 1) := by decide +kernel
theorem dX5_lawOf_30 : decode cX5_lawOf 30 = .ok (.getfield 10, 3) := by decide +kernel
theorem dX5_lawOf_33 : decode cX5_lawOf 33 = .ok (.invokevirtual 67, 3) := by decide +kernel
theorem dX5_lawOf_36 : decode cX5_lawOf 36 = .ok (.if_icmp .ge 79, 3) := by decide +kernel
theorem dX5_lawOf_39 : decode cX5_lawOf 39 = .ok (.aload_n 0, 1) := by decide +kernel
theorem dX5_lawOf_40 : decode cX5_lawOf 40 = .ok (.getfield 10, 3) := by decide +kernel
theorem dX5_lawOf_43 : decode cX5_lawOf 43 = .ok (.iload 5, 2) := by decide +kernel
theorem dX5_lawOf_45 : decode cX5_lawOf 45 = .ok (.invokevirtual 195, 3) := by decide +kernel
theorem dX5_lawOf_48 : decode cX5_lawOf 48 = .ok (.checkcast 26, 3) := by decide +kernel
theorem dX5_lawOf_51 : decode cX5_lawOf 51 = .ok (.astore 6, 2) := by decide +kernel
theorem dX5_lawOf_53 : decode cX5_lawOf 53 = .ok (.aload 6, 2) := by decide +kernel
theorem dX5_lawOf_55 : decode cX5_lawOf 55 = .ok (.getfield 199, 3) := by decide +kernel
theorem dX5_lawOf_58 : decode cX5_lawOf 58 = .ok (.iload_n 1, 1) := by decide +kernel
theorem dX5_lawOf_59 : decode cX5_lawOf 59 = .ok (.if_icmp .ne 25, 3) := by decide +kernel
theorem dX5_lawOf_62 : decode cX5_lawOf 62 = .ok (.aload 6, 2) := by decide +kernel
theorem dX5_lawOf_64 : decode cX5_lawOf 64 = .ok (.getfield 200, 3) := by decide +kernel
theorem dX5_lawOf_67 : decode cX5_lawOf 67 = .ok (.iload_n 3, 1) := by decide +kernel
theorem dX5_lawOf_68 : decode cX5_lawOf 68 = .ok (.if_icmp .ne 16, 3) := by decide +kernel
theorem dX5_lawOf_71 : decode cX5_lawOf 71 = .ok (.aload 6, 2) := by decide +kernel
theorem dX5_lawOf_73 : decode cX5_lawOf 73 = .ok (.getfield 203, 3) := by decide +kernel
theorem dX5_lawOf_76 : decode cX5_lawOf 76 = .ok (.iload_n 2, 1) := by decide +kernel
theorem dX5_lawOf_77 : decode cX5_lawOf 77 = .ok (.if_icmp .gt 7, 3) := by decide +kernel
theorem dX5_lawOf_80 : decode cX5_lawOf 80 = .ok (.iconst 1, 1) := by decide +kernel
theorem dX5_lawOf_81 : decode cX5_lawOf 81 = .ok (.goto 4, 3) := by decide +kernel
theorem dX5_lawOf_84 : decode cX5_lawOf 84 = .ok (.iconst 0, 1) := by decide +kernel
theorem dX5_lawOf_85 : decode cX5_lawOf 85 = .ok (.istore 7, 2) := by decide +kernel
theorem dX5_lawOf_87 : decode cX5_lawOf 87 = .ok (.iload 7, 2) := by decide +kernel
theorem dX5_lawOf_89 : decode cX5_lawOf 89 = .ok (.ifCond .eq 20, 3) := by decide +kernel
theorem dX5_lawOf_92 : decode cX5_lawOf 92 = .ok (.aload 6, 2) := by decide +kernel
theorem dX5_lawOf_94 : decode cX5_lawOf 94 = .ok (.getfield 203, 3) := by decide +kernel
theorem dX5_lawOf_97 : decode cX5_lawOf 97 = .ok (.aload 4, 2) := by decide +kernel
theorem dX5_lawOf_99 : decode cX5_lawOf 99 = .ok (.getfield 203, 3) := by decide +kernel
theorem dX5_lawOf_102 : decode cX5_lawOf 102 = .ok (.if_icmp .lt 7, 3) := by decide +kernel
theorem dX5_lawOf_105 : decode cX5_lawOf 105 = .ok (.aload 6, 2) := by decide +kernel
theorem dX5_lawOf_107 : decode cX5_lawOf 107 = .ok (.astore 4, 2) := by decide +kernel
theorem dX5_lawOf_109 : decode cX5_lawOf 109 = .ok (.iinc 5 1, 3) := by decide +kernel
theorem dX5_lawOf_112 : decode cX5_lawOf 112 = .ok (.goto (-85), 3) := by decide +kernel
theorem dX5_lawOf_115 : decode cX5_lawOf 115 = .ok (.aload 4, 2) := by decide +kernel
theorem dX5_lawOf_117 : decode cX5_lawOf 117 = .ok (.areturn, 1) := by decide +kernel
set_option maxRecDepth 20000 in
theorem ggX5_judge_X5_isCrowded : GoodIn wsX5_judge wsX5_isCrowded := goodIn_r _ [5, 6, 7, 8, 9, 10, 11, 12, 13, 14, 15, 16, 17, 18, 19, 20, 21, 22, 23, 24, 25, 26, 27, 28, 29, 30, 31, 32, 33, 34, 35, 4, 36, 37, 38, 39, 40, 41, 42, 43, 44, 45, 46, 47, 48, 49, 50, 51, 52, 53, 54, 55, 56, 57, 58, 59, 60, 61, 62, 63, 64, 65, 66, 67, 68, 69, 70, 71, 72, 73, 74, 75, 76, 77, 78, 79, 80, 91, 92, 93, 94, 95, 96, 97, 98, 99, 100, 101, 102, 103, 104, 105, 106, 107, 108, 109, 110, 111, 112, 113, 114, 115] (by decide +kernel) (by decide +kernel)
set_option maxRecDepth 20000 in
theorem gX5_judge_X5_isCrowded : GoodIn wsX5_judge (wsV RX5 206 RX5 yX5_isCrowded wsX5_isCrowded) := goodIn_app (goodIn_of _ (by decide +kernel)) ggX5_judge_X5_isCrowded
set_option maxRecDepth 20000 in
theorem ggX5_judge_X5_weightHeard : GoodIn wsX5_judge wsX5_weightHeard := goodIn_r _ [84, 85, 86, 87, 88, 89, 90, 11, 12, 13, 14, 15, 16, 17, 18, 19, 20, 21, 22, 23, 24, 25, 26, 27, 28, 29, 30, 31, 32, 33, 34, 35, 4, 36, 91, 92, 93, 94, 95, 96, 97, 98, 99, 100, 101, 116, 117, 118, 109, 110, 111] (by decide +kernel) (by decide +kernel)
set_option maxRecDepth 20000 in
theorem gX5_judge_X5_weightHeard : GoodIn wsX5_judge (wsV RX5 209 RX5 yX5_weightHeard wsX5_weightHeard) := goodIn_app (goodIn_of _ (by decide +kernel)) ggX5_judge_X5_weightHeard
theorem dX5_judge_0 : decode cX5_judge 0 = .ok (.iload 4, 2) := by decide +kernel
theorem dX5_judge_2 : decode cX5_judge 2 = .ok (.iload_n 3, 1) := by decide +kernel
theorem dX5_judge_3 : decode cX5_judge 3 = .ok (.isub, 1) := by decide +kernel
theorem dX5_judge_4 : decode cX5_judge 4 = .ok (.bipush 21, 2) := by decide +kernel
theorem dX5_judge_6 : decode cX5_judge 6 = .ok (.if_icmp .ge 5, 3) := by decide +kernel
theorem dX5_judge_9 : decode cX5_judge 9 = .ok (.iconst 1, 1) := by decide +kernel
theorem dX5_judge_10 : decode cX5_judge 10 = .ok (.ireturn, 1) := by decide +kernel
theorem dX5_judge_11 : decode cX5_judge 11 = .ok (.aload_n 0, 1) := by decide +kernel
theorem dX5_judge_12 : decode cX5_judge 12 = .ok (.iload_n 1, 1) := by decide +kernel
theorem dX5_judge_13 : decode cX5_judge 13 = .ok (.iload_n 2, 1) := by decide +kernel
theorem dX5_judge_14 : decode cX5_judge 14 = .ok (.iload 4, 2) := by decide +kernel
theorem dX5_judge_16 : decode cX5_judge 16 = .ok (.invokevirtual 206, 3) := by decide +kernel
theorem dX5_judge_19 : decode cX5_judge 19 = .ok (.ifCond .eq 5, 3) := by decide +kernel
theorem dX5_judge_22 : decode cX5_judge 22 = .ok (.iconst 2, 1) := by decide +kernel
theorem dX5_judge_23 : decode cX5_judge 23 = .ok (.ireturn, 1) := by decide +kernel
theorem dX5_judge_24 : decode cX5_judge 24 = .ok (.aload_n 0, 1) := by decide +kernel
theorem dX5_judge_25 : decode cX5_judge 25 = .ok (.iload_n 1, 1) := by decide +kernel
theorem dX5_judge_26 : decode cX5_judge 26 = .ok (.iload_n 2, 1) := by decide +kernel
theorem dX5_judge_27 : decode cX5_judge 27 = .ok (.invokevirtual 209, 3) := by decide +kernel
theorem dX5_judge_30 : decode cX5_judge 30 = .ok (.bipush 10, 2) := by decide +kernel
theorem dX5_judge_32 : decode cX5_judge 32 = .ok (.if_icmp .le 7, 3) := by decide +kernel
theorem dX5_judge_35 : decode cX5_judge 35 = .ok (.iconst 3, 1) := by decide +kernel
theorem dX5_judge_36 : decode cX5_judge 36 = .ok (.goto 4, 3) := by decide +kernel
theorem dX5_judge_39 : decode cX5_judge 39 = .ok (.iconst 0, 1) := by decide +kernel
theorem dX5_judge_40 : decode cX5_judge 40 = .ok (.ireturn, 1) := by decide +kernel
set_option maxRecDepth 20000 in
theorem ggX5_isCrowded_Jx4a65c_size_8abf5 : GoodIn wsX5_isCrowded wsJx4a65c_size_8abf5 := goodIn_r _ [10, 11, 95, 96, 97] (by decide +kernel) (by decide +kernel)
set_option maxRecDepth 20000 in
theorem gX5_isCrowded_Jx4a65c_size_8abf5 : GoodIn wsX5_isCrowded (wsV RX5 67 RJx4a65c yJx4a65c_size_8abf5 wsJx4a65c_size_8abf5) := goodIn_app (goodIn_of _ (by decide +kernel)) ggX5_isCrowded_Jx4a65c_size_8abf5
set_option maxRecDepth 20000 in
theorem ggX5_isCrowded_Jx4a65c_get_915e3 : GoodIn wsX5_isCrowded wsJx4a65c_get_915e3 := goodIn_r _ [15, 11, 16, 17, 18, 19, 20, 21, 22, 23, 24, 25, 26, 9, 27, 28, 95, 96, 97] (by decide +kernel) (by decide +kernel)
set_option maxRecDepth 20000 in
theorem gX5_isCrowded_Jx4a65c_get_915e3 : GoodIn wsX5_isCrowded (wsV RX5 195 RJx4a65c yJx4a65c_get_915e3 wsJx4a65c_get_915e3) := goodIn_app (goodIn_of _ (by decide +kernel)) ggX5_isCrowded_Jx4a65c_get_915e3
set_option maxRecDepth 20000 in
theorem ggX5_isCrowded_X5_squareOfDistance : GoodIn wsX5_isCrowded wsX5_squareOfDistance := goodIn_r _ [32] (by decide +kernel) (by decide +kernel)
set_option maxRecDepth 20000 in
theorem gX5_isCrowded_X5_squareOfDistance : GoodIn wsX5_isCrowded (va_wsS RX5 218 yX5_squareOfDistance wsX5_squareOfDistance) := goodIn_app (goodIn_of _ (by decide +kernel)) ggX5_isCrowded_X5_squareOfDistance
set_option maxRecDepth 20000 in
theorem ggX5_isCrowded_X1_hasLicence : GoodIn wsX5_isCrowded wsX1_hasLicence := goodIn_r _ [37, 38, 39, 40, 36, 41, 42, 43, 44, 45, 46, 47, 48, 49, 50, 51, 52, 53, 54, 55, 56, 7, 8, 9, 10, 11, 57, 13, 14, 15, 16, 17, 18, 19, 20, 21, 22, 23, 24, 25, 26, 27, 28, 58, 59, 60, 61, 62, 63, 64, 65, 66, 67, 68, 69, 70, 71, 31, 72, 73, 74, 75, 76, 88, 89, 90, 91, 92, 93, 94, 98, 99, 100, 101, 95, 96, 97] (by decide +kernel) (by decide +kernel)
set_option maxRecDepth 20000 in
theorem gX5_isCrowded_X1_hasLicence : GoodIn wsX5_isCrowded (wsV RX5 166 RX1 yX1_hasLicence wsX1_hasLicence) := goodIn_app (goodIn_of _ (by decide +kernel)) ggX5_isCrowded_X1_hasLicence
theorem dX5_isCrowded_0 : decode cX5_isCrowded 0 = .ok (.iconst 0, 1) := by decide +kernel
theorem dX5_isCrowded_1 : decode cX5_isCrowded 1 = .ok (.istore 4, 2) := by decide +kernel
theorem dX5_isCrowded_3 : decode cX5_isCrowded 3 = .ok (.iload 4, 2) := by decide +kernel
theorem dX5_isCrowded_5 : decode cX5_isCrowded 5 = .ok (.aload_n 0, 1) := by decide +kernel
theorem dX5_isCrowded_6 : decode cX5_isCrowded 6 = .ok (.getfield 19, 3) := by decide +kernel
theorem dX5_isCrowded_9 : decode cX5_isCrowded 9 = .ok (.invokevirtual 67, 3) := by decide +kernel
theorem dX5_isCrowded_12 : decode cX5_isCrowded 12 = .ok (.if_icmp .ge 61, 3) := by decide +kernel
theorem dX5_isCrowded_15 : decode cX5_isCrowded 15 = .ok (.aload_n 0, 1) := by decide +kernel
theorem dX5_isCrowded_16 : decode cX5_isCrowded 16 = .ok (.getfield 19, 3) := by decide +kernel
theorem dX5_isCrowded_19 : decode cX5_isCrowded 19 = .ok (.iload 4, 2) := by decide +kernel
theorem dX5_isCrowded_21 : decode cX5_isCrowded 21 = .ok (.invokevirtual 195, 3) := by decide +kernel
theorem dX5_isCrowded_24 : decode cX5_isCrowded 24 = .ok (.checkcast 93, 3) := by decide +kernel
theorem dX5_isCrowded_27 : decode cX5_isCrowded 27 = .ok (.astore 5, 2) := by decide +kernel
theorem dX5_isCrowded_29 : decode cX5_isCrowded 29 = .ok (.iload_n 1, 1) := by decide +kernel
theorem dX5_isCrowded_30 : decode cX5_isCrowded 30 = .ok (.iload_n 2, 1) := by decide +kernel
theorem dX5_isCrowded_31 : decode cX5_isCrowded 31 = .ok (.aload 5, 2) := by decide +kernel
theorem dX5_isCrowded_33 : decode cX5_isCrowded 33 = .ok (.getfield 212, 3) := by decide +kernel
theorem dX5_isCrowded_36 : decode cX5_isCrowded 36 = .ok (.aload 5, 2) := by decide +kernel
theorem dX5_isCrowded_38 : decode cX5_isCrowded 38 = .ok (.getfield 215, 3) := by decide +kernel
theorem dX5_isCrowded_41 : decode cX5_isCrowded 41 = .ok (.invokestatic 218, 3) := by decide +kernel
theorem dX5_isCrowded_44 : decode cX5_isCrowded 44 = .ok (.aload_n 0, 1) := by decide +kernel
theorem dX5_isCrowded_45 : decode cX5_isCrowded 45 = .ok (.getfield 35, 3) := by decide +kernel
theorem dX5_isCrowded_48 : decode cX5_isCrowded 48 = .ok (.aload_n 0, 1) := by decide +kernel
theorem dX5_isCrowded_49 : decode cX5_isCrowded 49 = .ok (.getfield 35, 3) := by decide +kernel
theorem dX5_isCrowded_52 : decode cX5_isCrowded 52 = .ok (.imul, 1) := by decide +kernel
theorem dX5_isCrowded_53 : decode cX5_isCrowded 53 = .ok (.if_icmp .ge 14, 3) := by decide +kernel
theorem dX5_isCrowded_56 : decode cX5_isCrowded 56 = .ok (.aload 5, 2) := by decide +kernel
theorem dX5_isCrowded_58 : decode cX5_isCrowded 58 = .ok (.iload_n 3, 1) := by decide +kernel
theorem dX5_isCrowded_59 : decode cX5_isCrowded 59 = .ok (.invokevirtual 166, 3) := by decide +kernel
theorem dX5_isCrowded_62 : decode cX5_isCrowded 62 = .ok (.ifCond .eq 5, 3) := by decide +kernel
theorem dX5_isCrowded_65 : decode cX5_isCrowded 65 = .ok (.iconst 1, 1) := by decide +kernel
theorem dX5_isCrowded_66 : decode cX5_isCrowded 66 = .ok (.ireturn, 1) := by decide +kernel
theorem dX5_isCrowded_67 : decode cX5_isCrowded 67 = .ok (.iinc 4 1, 3) := by decide +kernel
theorem dX5_isCrowded_70 : decode cX5_isCrowded 70 = .ok (.goto (-67), 3) := by decide +kernel
theorem dX5_isCrowded_73 : decode cX5_isCrowded 73 = .ok (.iconst 0, 1) := by decide +kernel
theorem dX5_isCrowded_74 : decode cX5_isCrowded 74 = .ok (.ireturn, 1) := by decide +kernel
set_option maxRecDepth 20000 in
theorem ggX5_weightHeard_Jx4a65c_size_8abf5 : GoodIn wsX5_weightHeard wsJx4a65c_size_8abf5 := goodIn_r _ [11, 12, 48, 49, 50] (by decide +kernel) (by decide +kernel)
set_option maxRecDepth 20000 in
theorem gX5_weightHeard_Jx4a65c_size_8abf5 : GoodIn wsX5_weightHeard (wsV RX5 67 RJx4a65c yJx4a65c_size_8abf5 wsJx4a65c_size_8abf5) := goodIn_app (goodIn_of _ (by decide +kernel)) ggX5_weightHeard_Jx4a65c_size_8abf5
set_option maxRecDepth 20000 in
theorem ggX5_weightHeard_Jx4a65c_get_915e3 : GoodIn wsX5_weightHeard wsJx4a65c_get_915e3 := goodIn_r _ [16, 12, 17, 18, 19, 20, 21, 22, 23, 24, 25, 26, 27, 10, 28, 29, 48, 49, 50] (by decide +kernel) (by decide +kernel)
set_option maxRecDepth 20000 in
theorem gX5_weightHeard_Jx4a65c_get_915e3 : GoodIn wsX5_weightHeard (wsV RX5 195 RJx4a65c yJx4a65c_get_915e3 wsJx4a65c_get_915e3) := goodIn_app (goodIn_of _ (by decide +kernel)) ggX5_weightHeard_Jx4a65c_get_915e3
set_option maxRecDepth 20000 in
theorem ggX5_weightHeard_X5_squareOfDistance : GoodIn wsX5_weightHeard wsX5_squareOfDistance := goodIn_r _ [33] (by decide +kernel) (by decide +kernel)
set_option maxRecDepth 20000 in
theorem gX5_weightHeard_X5_squareOfDistance : GoodIn wsX5_weightHeard (va_wsS RX5 218 yX5_squareOfDistance wsX5_squareOfDistance) := goodIn_app (goodIn_of _ (by decide +kernel)) ggX5_weightHeard_X5_squareOfDistance
theorem dX5_weightHeard_0 : decode cX5_weightHeard 0 = .ok (.iconst 0, 1) := by decide +kernel
theorem dX5_weightHeard_1 : decode cX5_weightHeard 1 = .ok (.istore_n 3, 1) := by decide +kernel
theorem dX5_weightHeard_2 : decode cX5_weightHeard 2 = .ok (.iconst 0, 1) := by decide +kernel
theorem dX5_weightHeard_3 : decode cX5_weightHeard 3 = .ok (.istore 4, 2) := by decide +kernel
theorem dX5_weightHeard_5 : decode cX5_weightHeard 5 = .ok (.iload 4, 2) := by decide +kernel
theorem dX5_weightHeard_7 : decode cX5_weightHeard 7 = .ok (.aload_n 0, 1) := by decide +kernel
theorem dX5_weightHeard_8 : decode cX5_weightHeard 8 = .ok (.getfield 16, 3) := by decide +kernel
theorem dX5_weightHeard_11 : decode cX5_weightHeard 11 = .ok (.invokevirtual 67, 3) := by decide +kernel
theorem dX5_weightHeard_14 : decode cX5_weightHeard 14 = .ok (.if_icmp .ge 58, 3) := by decide +kernel
theorem dX5_weightHeard_17 : decode cX5_weightHeard 17 = .ok (.aload_n 0, 1) := by decide +kernel
theorem dX5_weightHeard_18 : decode cX5_weightHeard 18 = .ok (.getfield 16, 3) := by decide +kernel
theorem dX5_weightHeard_21 : decode cX5_weightHeard 21 = .ok (.iload 4, 2) := by decide +kernel
theorem dX5_weightHeard_23 : decode cX5_weightHeard 23 = .ok (.invokevirtual 195, 3) := by decide +kernel
theorem dX5_weightHeard_26 : decode cX5_weightHeard 26 = .ok (.checkcast 78, 3) := by decide +kernel
theorem dX5_weightHeard_29 : decode cX5_weightHeard 29 = .ok (.astore 5, 2) := by decide +kernel
theorem dX5_weightHeard_31 : decode cX5_weightHeard 31 = .ok (.iload_n 1, 1) := by decide +kernel
theorem dX5_weightHeard_32 : decode cX5_weightHeard 32 = .ok (.iload_n 2, 1) := by decide +kernel
theorem dX5_weightHeard_33 : decode cX5_weightHeard 33 = .ok (.aload 5, 2) := by decide +kernel
theorem dX5_weightHeard_35 : decode cX5_weightHeard 35 = .ok (.getfield 221, 3) := by decide +kernel
theorem dX5_weightHeard_38 : decode cX5_weightHeard 38 = .ok (.aload 5, 2) := by decide +kernel
theorem dX5_weightHeard_40 : decode cX5_weightHeard 40 = .ok (.getfield 222, 3) := by decide +kernel
theorem dX5_weightHeard_43 : decode cX5_weightHeard 43 = .ok (.invokestatic 218, 3) := by decide +kernel
theorem dX5_weightHeard_46 : decode cX5_weightHeard 46 = .ok (.aload_n 0, 1) := by decide +kernel
theorem dX5_weightHeard_47 : decode cX5_weightHeard 47 = .ok (.getfield 39, 3) := by decide +kernel
theorem dX5_weightHeard_50 : decode cX5_weightHeard 50 = .ok (.aload_n 0, 1) := by decide +kernel
theorem dX5_weightHeard_51 : decode cX5_weightHeard 51 = .ok (.getfield 39, 3) := by decide +kernel
theorem dX5_weightHeard_54 : decode cX5_weightHeard 54 = .ok (.imul, 1) := by decide +kernel
theorem dX5_weightHeard_55 : decode cX5_weightHeard 55 = .ok (.if_icmp .gt 11, 3) := by decide +kernel
theorem dX5_weightHeard_58 : decode cX5_weightHeard 58 = .ok (.iload_n 3, 1) := by decide +kernel
theorem dX5_weightHeard_59 : decode cX5_weightHeard 59 = .ok (.aload 5, 2) := by decide +kernel
theorem dX5_weightHeard_61 : decode cX5_weightHeard 61 = .ok (.getfield 223, 3) := by decide +kernel
theorem dX5_weightHeard_64 : decode cX5_weightHeard 64 = .ok (.iadd, 1) := by decide +kernel
theorem dX5_weightHeard_65 : decode cX5_weightHeard 65 = .ok (.istore_n 3, 1) := by decide +kernel
theorem dX5_weightHeard_66 : decode cX5_weightHeard 66 = .ok (.iinc 4 1, 3) := by decide +kernel
theorem dX5_weightHeard_69 : decode cX5_weightHeard 69 = .ok (.goto (-64), 3) := by decide +kernel
theorem dX5_weightHeard_72 : decode cX5_weightHeard 72 = .ok (.iload_n 3, 1) := by decide +kernel
theorem dX5_weightHeard_73 : decode cX5_weightHeard 73 = .ok (.ireturn, 1) := by decide +kernel
set_option maxRecDepth 20000 in
theorem ggX5_openOverMidnightUntil_X1_conditionOn : GoodIn wsX5_openOverMidnightUntil wsX1_conditionOn := goodIn_r _ [11, 12, 13, 14, 15, 16, 17, 18, 19, 20, 21, 22, 23, 24, 25, 26, 27, 28, 29, 30, 31, 32, 33, 34, 35, 36, 37, 38, 39, 40, 41, 42, 95, 96, 97, 98, 99, 100, 101, 107, 108, 109, 110, 111, 112, 113] (by decide +kernel) (by decide +kernel)
set_option maxRecDepth 20000 in
theorem gX5_openOverMidnightUntil_X1_conditionOn : GoodIn wsX5_openOverMidnightUntil (wsV RX5 136 RX1 yX1_conditionOn wsX1_conditionOn) := goodIn_app (goodIn_of _ (by decide +kernel)) ggX5_openOverMidnightUntil_X1_conditionOn
set_option maxRecDepth 20000 in
theorem ggX5_openOverMidnightUntil_X1_hasLicence : GoodIn wsX5_openOverMidnightUntil wsX1_hasLicence := goodIn_r _ [46, 47, 48, 49, 10, 50, 51, 52, 53, 5, 54, 55, 56, 57, 58, 59, 12, 13, 14, 15, 17, 18, 19, 20, 21, 22, 23, 24, 25, 26, 27, 28, 29, 30, 31, 32, 33, 34, 35, 36, 37, 38, 39, 60, 61, 62, 63, 64, 65, 66, 67, 68, 69, 70, 71, 72, 40, 41, 42, 73, 74, 75, 76, 95, 96, 97, 98, 99, 100, 101, 107, 108, 109, 110, 111, 112, 113] (by decide +kernel) (by decide +kernel)
set_option maxRecDepth 20000 in
theorem gX5_openOverMidnightUntil_X1_hasLicence : GoodIn wsX5_openOverMidnightUntil (wsV RX5 166 RX1 yX1_hasLicence wsX1_hasLicence) := goodIn_app (goodIn_of _ (by decide +kernel)) ggX5_openOverMidnightUntil_X1_hasLicence
set_option maxRecDepth 20000 in
theorem ggX5_openOverMidnightUntil_X5_lawOf : GoodIn wsX5_openOverMidnightUntil wsX5_lawOf := goodIn_r _ [80, 81, 82, 83, 84, 85, 86, 87, 88, 89, 41, 90, 91, 92, 93, 18, 19, 20, 21, 22, 94, 24, 25, 26, 27, 28, 29, 30, 31, 32, 33, 34, 35, 36, 37, 38, 39, 114, 115, 116, 117, 118, 119, 120, 121, 122, 123, 124, 102, 103, 104, 105, 106, 111, 112, 113] (by decide +kernel) (by decide +kernel)
set_option maxRecDepth 20000 in
theorem gX5_openOverMidnightUntil_X5_lawOf : GoodIn wsX5_openOverMidnightUntil (wsV RX5 149 RX5 yX5_lawOf wsX5_lawOf) := goodIn_app (goodIn_of _ (by decide +kernel)) ggX5_openOverMidnightUntil_X5_lawOf
theorem dX5_openOverMidnightUntil_0 : decode cX5_openOverMidnightUntil 0 = .ok (.iload_n 2, 1) := by decide +kernel
theorem dX5_openOverMidnightUntil_1 : decode cX5_openOverMidnightUntil 1 = .ok (.ifCond .eq 13, 3) := by decide +kernel
theorem dX5_openOverMidnightUntil_4 : decode cX5_openOverMidnightUntil 4 = .ok (.aload_n 1, 1) := by decide +kernel
theorem dX5_openOverMidnightUntil_5 : decode cX5_openOverMidnightUntil 5 = .ok (.iload_n 2, 1) := by decide +kernel
theorem dX5_openOverMidnightUntil_6 : decode cX5_openOverMidnightUntil 6 = .ok (.invokevirtual 136, 3) := by decide +kernel
theorem dX5_openOverMidnightUntil_9 : decode cX5_openOverMidnightUntil 9 = .ok (.bipush (-4), 2) := by decide +kernel
theorem dX5_openOverMidnightUntil_11 : decode cX5_openOverMidnightUntil 11 = .ok (.if_icmp .eq 5, 3) := by decide +kernel
theorem dX5_openOverMidnightUntil_14 : decode cX5_openOverMidnightUntil 14 = .ok (.iconst 0, 1) := by decide +kernel
theorem dX5_openOverMidnightUntil_15 : decode cX5_openOverMidnightUntil 15 = .ok (.ireturn, 1) := by decide +kernel
theorem dX5_openOverMidnightUntil_16 : decode cX5_openOverMidnightUntil 16 = .ok (.aload_n 1, 1) := by decide +kernel
theorem dX5_openOverMidnightUntil_17 : decode cX5_openOverMidnightUntil 17 = .ok (.iload_n 2, 1) := by decide +kernel
theorem dX5_openOverMidnightUntil_18 : decode cX5_openOverMidnightUntil 18 = .ok (.invokevirtual 166, 3) := by decide +kernel
theorem dX5_openOverMidnightUntil_21 : decode cX5_openOverMidnightUntil 21 = .ok (.ifCond .eq 13, 3) := by decide +kernel
theorem dX5_openOverMidnightUntil_24 : decode cX5_openOverMidnightUntil 24 = .ok (.aload_n 1, 1) := by decide +kernel
theorem dX5_openOverMidnightUntil_25 : decode cX5_openOverMidnightUntil 25 = .ok (.iload_n 2, 1) := by decide +kernel
theorem dX5_openOverMidnightUntil_26 : decode cX5_openOverMidnightUntil 26 = .ok (.iconst 1, 1) := by decide +kernel
theorem dX5_openOverMidnightUntil_27 : decode cX5_openOverMidnightUntil 27 = .ok (.isub, 1) := by decide +kernel
theorem dX5_openOverMidnightUntil_28 : decode cX5_openOverMidnightUntil 28 = .ok (.invokevirtual 166, 3) := by decide +kernel
theorem dX5_openOverMidnightUntil_31 : decode cX5_openOverMidnightUntil 31 = .ok (.ifCond .ne 5, 3) := by decide +kernel
theorem dX5_openOverMidnightUntil_34 : decode cX5_openOverMidnightUntil 34 = .ok (.iconst 0, 1) := by decide +kernel
theorem dX5_openOverMidnightUntil_35 : decode cX5_openOverMidnightUntil 35 = .ok (.ireturn, 1) := by decide +kernel
theorem dX5_openOverMidnightUntil_36 : decode cX5_openOverMidnightUntil 36 = .ok (.iconst 0, 1) := by decide +kernel
theorem dX5_openOverMidnightUntil_37 : decode cX5_openOverMidnightUntil 37 = .ok (.aload_n 0, 1) := by decide +kernel
theorem dX5_openOverMidnightUntil_38 : decode cX5_openOverMidnightUntil 38 = .ok (.aload_n 1, 1) := by decide +kernel
theorem dX5_openOverMidnightUntil_39 : decode cX5_openOverMidnightUntil 39 = .ok (.getfield 146, 3) := by decide +kernel
theorem dX5_openOverMidnightUntil_42 : decode cX5_openOverMidnightUntil 42 = .ok (.iload_n 2, 1) := by decide +kernel
theorem dX5_openOverMidnightUntil_43 : decode cX5_openOverMidnightUntil 43 = .ok (.iconst 1, 1) := by decide +kernel
theorem dX5_openOverMidnightUntil_44 : decode cX5_openOverMidnightUntil 44 = .ok (.isub, 1) := by decide +kernel
theorem dX5_openOverMidnightUntil_45 : decode cX5_openOverMidnightUntil 45 = .ok (.invokevirtual 149, 3) := by decide +kernel
theorem dX5_openOverMidnightUntil_48 : decode cX5_openOverMidnightUntil 48 = .ok (.getfield 159, 3) := by decide +kernel
theorem dX5_openOverMidnightUntil_51 : decode cX5_openOverMidnightUntil 51 = .ok (.sipush 1440, 3) := by decide +kernel
theorem dX5_openOverMidnightUntil_54 : decode cX5_openOverMidnightUntil 54 = .ok (.isub, 1) := by decide +kernel
theorem dX5_openOverMidnightUntil_55 : decode cX5_openOverMidnightUntil 55 = .ok (.invokestatic 120, 3) := by decide +kernel
theorem dX5_openOverMidnightUntil_58 : decode cX5_openOverMidnightUntil 58 = .ok (.ireturn, 1) := by decide +kernel
set_option maxRecDepth 20000 in
theorem ggX5_openTodayUntil_X1_hasLicence : GoodIn wsX5_openTodayUntil wsX1_hasLicence := goodIn_r _ [11, 12, 13, 14, 10, 15, 16, 17, 4, 5, 6, 18, 19, 20, 21, 22, 23, 24, 25, 26, 27, 28, 29, 30, 31, 32, 33, 34, 35, 36, 37, 38, 39, 40, 41, 42, 43, 44, 45, 46, 47, 48, 49, 50, 51, 52, 53, 54, 55, 56, 57, 58, 59, 60, 61, 62, 63, 64, 65, 66, 67, 68, 69, 93, 94, 95, 96, 97, 98, 99, 105, 106, 107, 108, 109, 110, 111] (by decide +kernel) (by decide +kernel)
set_option maxRecDepth 20000 in
theorem gX5_openTodayUntil_X1_hasLicence : GoodIn wsX5_openTodayUntil (wsV RX5 166 RX1 yX1_hasLicence wsX1_hasLicence) := goodIn_app (goodIn_of _ (by decide +kernel)) ggX5_openTodayUntil_X1_hasLicence
set_option maxRecDepth 20000 in
theorem ggX5_openTodayUntil_X1_conditionOn : GoodIn wsX5_openTodayUntil wsX1_conditionOn := goodIn_r _ [73, 23, 24, 25, 26, 74, 27, 28, 29, 30, 31, 32, 33, 34, 35, 36, 37, 38, 39, 40, 41, 42, 43, 44, 45, 46, 47, 48, 49, 63, 64, 65, 93, 94, 95, 96, 97, 98, 99, 105, 106, 107, 108, 109, 110, 111] (by decide +kernel) (by decide +kernel)
set_option maxRecDepth 20000 in
theorem gX5_openTodayUntil_X1_conditionOn : GoodIn wsX5_openTodayUntil (wsV RX5 136 RX1 yX1_conditionOn wsX1_conditionOn) := goodIn_app (goodIn_of _ (by decide +kernel)) ggX5_openTodayUntil_X1_conditionOn
set_option maxRecDepth 20000 in
theorem ggX5_openTodayUntil_X5_lawOf : GoodIn wsX5_openTodayUntil wsX5_lawOf := goodIn_r _ [78, 79, 80, 81, 82, 83, 84, 85, 86, 87, 64, 88, 89, 90, 91, 28, 29, 30, 31, 32, 92, 34, 35, 36, 37, 38, 39, 40, 41, 42, 43, 44, 45, 46, 47, 48, 49, 112, 113, 114, 115, 116, 117, 118, 119, 120, 121, 122, 100, 101, 102, 103, 104, 109, 110, 111] (by decide +kernel) (by decide +kernel)
set_option maxRecDepth 20000 in
theorem gX5_openTodayUntil_X5_lawOf : GoodIn wsX5_openTodayUntil (wsV RX5 149 RX5 yX5_lawOf wsX5_lawOf) := goodIn_app (goodIn_of _ (by decide +kernel)) ggX5_openTodayUntil_X5_lawOf
theorem dX5_openTodayUntil_0 : decode cX5_openTodayUntil 0 = .ok (.aload_n 1, 1) := by decide +kernel
theorem dX5_openTodayUntil_1 : decode cX5_openTodayUntil 1 = .ok (.iload_n 2, 1) := by decide +kernel
theorem dX5_openTodayUntil_2 : decode cX5_openTodayUntil 2 = .ok (.invokevirtual 166, 3) := by decide +kernel
theorem dX5_openTodayUntil_5 : decode cX5_openTodayUntil 5 = .ok (.ifCond .ne 5, 3) := by decide +kernel
theorem dX5_openTodayUntil_8 : decode cX5_openTodayUntil 8 = .ok (.iconst 0, 1) := by decide +kernel
theorem dX5_openTodayUntil_9 : decode cX5_openTodayUntil 9 = .ok (.ireturn, 1) := by decide +kernel
theorem dX5_openTodayUntil_10 : decode cX5_openTodayUntil 10 = .ok (.aload_n 1, 1) := by decide +kernel
theorem dX5_openTodayUntil_11 : decode cX5_openTodayUntil 11 = .ok (.iload_n 2, 1) := by decide +kernel
theorem dX5_openTodayUntil_12 : decode cX5_openTodayUntil 12 = .ok (.invokevirtual 136, 3) := by decide +kernel
theorem dX5_openTodayUntil_15 : decode cX5_openTodayUntil 15 = .ok (.istore_n 3, 1) := by decide +kernel
theorem dX5_openTodayUntil_16 : decode cX5_openTodayUntil 16 = .ok (.iload_n 3, 1) := by decide +kernel
theorem dX5_openTodayUntil_17 : decode cX5_openTodayUntil 17 = .ok (.bipush (-4), 2) := by decide +kernel
theorem dX5_openTodayUntil_19 : decode cX5_openTodayUntil 19 = .ok (.if_icmp .ne 9, 3) := by decide +kernel
theorem dX5_openTodayUntil_22 : decode cX5_openTodayUntil 22 = .ok (.sipush 1440, 3) := by decide +kernel
theorem dX5_openTodayUntil_25 : decode cX5_openTodayUntil 25 = .ok (.goto 4, 3) := by decide +kernel
theorem dX5_openTodayUntil_28 : decode cX5_openTodayUntil 28 = .ok (.iload_n 3, 1) := by decide +kernel
theorem dX5_openTodayUntil_29 : decode cX5_openTodayUntil 29 = .ok (.istore 4, 2) := by decide +kernel
theorem dX5_openTodayUntil_31 : decode cX5_openTodayUntil 31 = .ok (.aload_n 0, 1) := by decide +kernel
theorem dX5_openTodayUntil_32 : decode cX5_openTodayUntil 32 = .ok (.aload_n 1, 1) := by decide +kernel
theorem dX5_openTodayUntil_33 : decode cX5_openTodayUntil 33 = .ok (.getfield 146, 3) := by decide +kernel
theorem dX5_openTodayUntil_36 : decode cX5_openTodayUntil 36 = .ok (.iload_n 2, 1) := by decide +kernel
theorem dX5_openTodayUntil_37 : decode cX5_openTodayUntil 37 = .ok (.invokevirtual 149, 3) := by decide +kernel
theorem dX5_openTodayUntil_40 : decode cX5_openTodayUntil 40 = .ok (.getfield 159, 3) := by decide +kernel
theorem dX5_openTodayUntil_43 : decode cX5_openTodayUntil 43 = .ok (.iload 4, 2) := by decide +kernel
theorem dX5_openTodayUntil_45 : decode cX5_openTodayUntil 45 = .ok (.invokestatic 226, 3) := by decide +kernel
theorem dX5_openTodayUntil_48 : decode cX5_openTodayUntil 48 = .ok (.ireturn, 1) := by decide +kernel
set_option maxRecDepth 20000 in
theorem ggX5_partOf_X5_worthOfPayers : GoodIn wsX5_partOf wsX5_worthOfPayers := goodIn_r _ [7, 1, 2, 8, 9, 10, 11, 12, 13, 14, 15, 16, 17, 18, 19, 20, 21, 22, 23, 24, 25, 26, 27, 28, 29, 30, 31, 32, 33, 34, 35, 36, 37, 38, 39, 40, 41, 42, 43, 44, 45, 46, 47, 48, 49, 50, 51, 52, 53, 54, 55, 56, 57, 58, 59, 60, 61, 62, 63, 64, 65, 66, 67, 68, 69, 6, 70, 71, 72, 73, 74, 75, 76, 77, 78, 79, 80, 81, 82, 83, 84, 85, 86, 87, 88, 89, 90, 91, 92, 93, 94, 95, 96, 97, 98, 99, 100, 101, 102, 103, 104, 105, 106, 107, 108, 109, 110, 111, 112, 113] (by decide +kernel) (by decide +kernel)
set_option maxRecDepth 20000 in
theorem gX5_partOf_X5_worthOfPayers : GoodIn wsX5_partOf (wsV RX5 229 RX5 yX5_worthOfPayers wsX5_worthOfPayers) := goodIn_app (goodIn_of _ (by decide +kernel)) ggX5_partOf_X5_worthOfPayers
set_option maxRecDepth 20000 in
theorem ggX5_partOf_Jx4a65c_size_8abf5 : GoodIn wsX5_partOf wsJx4a65c_size_8abf5 := goodIn_r _ [12, 13, 98, 99, 100] (by decide +kernel) (by decide +kernel)
set_option maxRecDepth 20000 in
theorem gX5_partOf_Jx4a65c_size_8abf5 : GoodIn wsX5_partOf (wsV RX5 67 RJx4a65c yJx4a65c_size_8abf5 wsJx4a65c_size_8abf5) := goodIn_app (goodIn_of _ (by decide +kernel)) ggX5_partOf_Jx4a65c_size_8abf5
set_option maxRecDepth 20000 in
theorem ggX5_partOf_Jx4a65c_get_915e3 : GoodIn wsX5_partOf wsJx4a65c_get_915e3 := goodIn_r _ [17, 13, 18, 19, 20, 21, 22, 23, 24, 25, 26, 27, 28, 11, 29, 30, 98, 99, 100] (by decide +kernel) (by decide +kernel)
set_option maxRecDepth 20000 in
theorem gX5_partOf_Jx4a65c_get_915e3 : GoodIn wsX5_partOf (wsV RX5 195 RJx4a65c yJx4a65c_get_915e3 wsJx4a65c_get_915e3) := goodIn_app (goodIn_of _ (by decide +kernel)) ggX5_partOf_Jx4a65c_get_915e3
set_option maxRecDepth 20000 in
theorem ggX5_partOf_X1_hasLicence : GoodIn wsX5_partOf wsX1_hasLicence := goodIn_r _ [35, 36, 37, 38, 34, 39, 40, 41, 42, 43, 44, 45, 46, 47, 48, 49, 50, 51, 52, 53, 54, 9, 10, 11, 12, 13, 55, 15, 16, 17, 18, 19, 20, 21, 22, 23, 24, 25, 26, 27, 28, 29, 30, 56, 57, 58, 59, 60, 61, 62, 63, 64, 65, 66, 67, 68, 69, 6, 70, 71, 72, 73, 74, 101, 102, 103, 104, 105, 106, 107, 108, 109, 110, 111, 98, 99, 100] (by decide +kernel) (by decide +kernel)
set_option maxRecDepth 20000 in
theorem gX5_partOf_X1_hasLicence : GoodIn wsX5_partOf (wsV RX5 166 RX1 yX1_hasLicence wsX1_hasLicence) := goodIn_app (goodIn_of _ (by decide +kernel)) ggX5_partOf_X1_hasLicence
set_option maxRecDepth 20000 in
theorem ggX5_partOf_X1_worthOn : GoodIn wsX5_partOf wsX1_worthOn := goodIn_r _ [78, 79, 80, 81, 82, 83, 84, 85, 11, 86, 13, 55, 15, 16, 17, 18, 19, 20, 21, 22, 23, 24, 25, 26, 27, 28, 29, 30, 54, 9, 10, 12, 69, 6, 70, 101, 102, 103, 104, 105, 106, 107, 112, 113, 98, 99, 100] (by decide +kernel) (by decide +kernel)
set_option maxRecDepth 20000 in
theorem gX5_partOf_X1_worthOn : GoodIn wsX5_partOf (wsV RX5 139 RX1 yX1_worthOn wsX1_worthOn) := goodIn_app (goodIn_of _ (by decide +kernel)) ggX5_partOf_X1_worthOn
theorem dX5_partOf_0 : decode cX5_partOf 0 = .ok (.aload_n 0, 1) := by decide +kernel
theorem dX5_partOf_1 : decode cX5_partOf 1 = .ok (.iload_n 3, 1) := by decide +kernel
theorem dX5_partOf_2 : decode cX5_partOf 2 = .ok (.invokevirtual 229, 3) := by decide +kernel
theorem dX5_partOf_5 : decode cX5_partOf 5 = .ok (.lstore 6, 2) := by decide +kernel
theorem dX5_partOf_7 : decode cX5_partOf 7 = .ok (.lload 6, 2) := by decide +kernel
theorem dX5_partOf_9 : decode cX5_partOf 9 = .ok (.lconst 0, 1) := by decide +kernel
theorem dX5_partOf_10 : decode cX5_partOf 10 = .ok (.lcmp, 1) := by decide +kernel
theorem dX5_partOf_11 : decode cX5_partOf 11 = .ok (.ifCond .gt 5, 3) := by decide +kernel
theorem dX5_partOf_14 : decode cX5_partOf 14 = .ok (.iconst 0, 1) := by decide +kernel
theorem dX5_partOf_15 : decode cX5_partOf 15 = .ok (.ireturn, 1) := by decide +kernel
theorem dX5_partOf_16 : decode cX5_partOf 16 = .ok (.lload 4, 2) := by decide +kernel
theorem dX5_partOf_18 : decode cX5_partOf 18 = .ok (.iload_n 2, 1) := by decide +kernel
theorem dX5_partOf_19 : decode cX5_partOf 19 = .ok (.i2l, 1) := by decide +kernel
theorem dX5_partOf_20 : decode cX5_partOf 20 = .ok (.lmul, 1) := by decide +kernel
theorem dX5_partOf_21 : decode cX5_partOf 21 = .ok (.lstore 8, 2) := by decide +kernel
theorem dX5_partOf_23 : decode cX5_partOf 23 = .ok (.lload 8, 2) := by decide +kernel
theorem dX5_partOf_25 : decode cX5_partOf 25 = .ok (.lload 6, 2) := by decide +kernel
theorem dX5_partOf_27 : decode cX5_partOf 27 = .ok (.lrem, 1) := by decide +kernel
theorem dX5_partOf_28 : decode cX5_partOf 28 = .ok (.lstore 10, 2) := by decide +kernel
theorem dX5_partOf_30 : decode cX5_partOf 30 = .ok (.lload 4, 2) := by decide +kernel
theorem dX5_partOf_32 : decode cX5_partOf 32 = .ok (.lstore 12, 2) := by decide +kernel
theorem dX5_partOf_34 : decode cX5_partOf 34 = .ok (.iconst 0, 1) := by decide +kernel
theorem dX5_partOf_35 : decode cX5_partOf 35 = .ok (.istore 14, 2) := by decide +kernel
theorem dX5_partOf_37 : decode cX5_partOf 37 = .ok (.iconst 0, 1) := by decide +kernel
theorem dX5_partOf_38 : decode cX5_partOf 38 = .ok (.istore 15, 2) := by decide +kernel
theorem dX5_partOf_40 : decode cX5_partOf 40 = .ok (.iload 15, 2) := by decide +kernel
theorem dX5_partOf_42 : decode cX5_partOf 42 = .ok (.aload_n 0, 1) := by decide +kernel
theorem dX5_partOf_43 : decode cX5_partOf 43 = .ok (.getfield 19, 3) := by decide +kernel
theorem dX5_partOf_46 : decode cX5_partOf 46 = .ok (.invokevirtual 67, 3) := by decide +kernel
theorem dX5_partOf_49 : decode cX5_partOf 49 = .ok (.if_icmp .ge 86, 3) := by decide +kernel
theorem dX5_partOf_52 : decode cX5_partOf 52 = .ok (.aload_n 0, 1) := by decide +kernel
theorem dX5_partOf_53 : decode cX5_partOf 53 = .ok (.getfield 19, 3) := by decide +kernel
theorem dX5_partOf_56 : decode cX5_partOf 56 = .ok (.iload 15, 2) := by decide +kernel
theorem dX5_partOf_58 : decode cX5_partOf 58 = .ok (.invokevirtual 195, 3) := by decide +kernel
theorem dX5_partOf_61 : decode cX5_partOf 61 = .ok (.checkcast 93, 3) := by decide +kernel
theorem dX5_partOf_64 : decode cX5_partOf 64 = .ok (.astore 16, 2) := by decide +kernel
theorem dX5_partOf_66 : decode cX5_partOf 66 = .ok (.aload 16, 2) := by decide +kernel
theorem dX5_partOf_68 : decode cX5_partOf 68 = .ok (.iload_n 3, 1) := by decide +kernel
theorem dX5_partOf_69 : decode cX5_partOf 69 = .ok (.invokevirtual 166, 3) := by decide +kernel
theorem dX5_partOf_72 : decode cX5_partOf 72 = .ok (.ifCond .eq 57, 3) := by decide +kernel
theorem dX5_partOf_75 : decode cX5_partOf 75 = .ok (.lload 4, 2) := by decide +kernel
theorem dX5_partOf_77 : decode cX5_partOf 77 = .ok (.aload 16, 2) := by decide +kernel
theorem dX5_partOf_79 : decode cX5_partOf 79 = .ok (.iload_n 3, 1) := by decide +kernel
theorem dX5_partOf_80 : decode cX5_partOf 80 = .ok (.invokevirtual 139, 3) := by decide +kernel
theorem dX5_partOf_83 : decode cX5_partOf 83 = .ok (.i2l, 1) := by decide +kernel
theorem dX5_partOf_84 : decode cX5_partOf 84 = .ok (.lmul, 1) := by decide +kernel
theorem dX5_partOf_85 : decode cX5_partOf 85 = .ok (.lstore 17, 2) := by decide +kernel
theorem dX5_partOf_87 : decode cX5_partOf 87 = .ok (.lload 17, 2) := by decide +kernel
theorem dX5_partOf_89 : decode cX5_partOf 89 = .ok (.lload 6, 2) := by decide +kernel
theorem dX5_partOf_91 : decode cX5_partOf 91 = .ok (.lrem, 1) := by decide +kernel
theorem dX5_partOf_92 : decode cX5_partOf 92 = .ok (.lstore 19, 2) := by decide +kernel
theorem dX5_partOf_94 : decode cX5_partOf 94 = .ok (.lload 12, 2) := by decide +kernel
theorem dX5_partOf_96 : decode cX5_partOf 96 = .ok (.lload 17, 2) := by decide +kernel
theorem dX5_partOf_98 : decode cX5_partOf 98 = .ok (.lload 6, 2) := by decide +kernel
theorem dX5_partOf_100 : decode cX5_partOf 100 = .ok (.ldiv, 1) := by decide +kernel
theorem dX5_partOf_101 : decode cX5_partOf 101 = .ok (.lsub, 1) := by decide +kernel
theorem dX5_partOf_102 : decode cX5_partOf 102 = .ok (.lstore 12, 2) := by decide +kernel
theorem dX5_partOf_104 : decode cX5_partOf 104 = .ok (.lload 19, 2) := by decide +kernel
theorem dX5_partOf_106 : decode cX5_partOf 106 = .ok (.lload 10, 2) := by decide +kernel
theorem dX5_partOf_108 : decode cX5_partOf 108 = .ok (.lcmp, 1) := by decide +kernel
theorem dX5_partOf_109 : decode cX5_partOf 109 = .ok (.ifCond .gt 17, 3) := by decide +kernel
theorem dX5_partOf_112 : decode cX5_partOf 112 = .ok (.lload 19, 2) := by decide +kernel
theorem dX5_partOf_114 : decode cX5_partOf 114 = .ok (.lload 10, 2) := by decide +kernel
theorem dX5_partOf_116 : decode cX5_partOf 116 = .ok (.lcmp, 1) := by decide +kernel
theorem dX5_partOf_117 : decode cX5_partOf 117 = .ok (.ifCond .ne 12, 3) := by decide +kernel
theorem dX5_partOf_120 : decode cX5_partOf 120 = .ok (.iload 15, 2) := by decide +kernel
theorem dX5_partOf_122 : decode cX5_partOf 122 = .ok (.iload_n 1, 1) := by decide +kernel
theorem dX5_partOf_123 : decode cX5_partOf 123 = .ok (.if_icmp .ge 6, 3) := by decide +kernel
theorem dX5_partOf_126 : decode cX5_partOf 126 = .ok (.iinc 14 1, 3) := by decide +kernel
theorem dX5_partOf_129 : decode cX5_partOf 129 = .ok (.iinc 15 1, 3) := by decide +kernel
theorem dX5_partOf_132 : decode cX5_partOf 132 = .ok (.goto (-92), 3) := by decide +kernel
theorem dX5_partOf_135 : decode cX5_partOf 135 = .ok (.lload 8, 2) := by decide +kernel
theorem dX5_partOf_137 : decode cX5_partOf 137 = .ok (.lload 6, 2) := by decide +kernel
theorem dX5_partOf_139 : decode cX5_partOf 139 = .ok (.ldiv, 1) := by decide +kernel
theorem dX5_partOf_140 : decode cX5_partOf 140 = .ok (.l2i, 1) := by decide +kernel
theorem dX5_partOf_141 : decode cX5_partOf 141 = .ok (.iload 14, 2) := by decide +kernel
theorem dX5_partOf_143 : decode cX5_partOf 143 = .ok (.i2l, 1) := by decide +kernel
theorem dX5_partOf_144 : decode cX5_partOf 144 = .ok (.lload 12, 2) := by decide +kernel
theorem dX5_partOf_146 : decode cX5_partOf 146 = .ok (.lcmp, 1) := by decide +kernel
