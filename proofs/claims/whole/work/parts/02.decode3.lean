theorem dX5_partOf_147 : decode cX5_partOf 147 = .ok (.ifCond .ge 7, 3) := by decide +kernel
theorem dX5_partOf_150 : decode cX5_partOf 150 = .ok (.iconst 1, 1) := by decide +kernel
theorem dX5_partOf_151 : decode cX5_partOf 151 = .ok (.goto 4, 3) := by decide +kernel
theorem dX5_partOf_154 : decode cX5_partOf 154 = .ok (.iconst 0, 1) := by decide +kernel
theorem dX5_partOf_155 : decode cX5_partOf 155 = .ok (.iadd, 1) := by decide +kernel
theorem dX5_partOf_156 : decode cX5_partOf 156 = .ok (.ireturn, 1) := by decide +kernel
set_option maxRecDepth 20000 in
theorem ggX5_worthOfPayers_Jx4a65c_size_8abf5 : GoodIn wsX5_worthOfPayers wsJx4a65c_size_8abf5 := goodIn_r _ [7, 8, 94, 95, 96] (by decide +kernel) (by decide +kernel)
set_option maxRecDepth 20000 in
theorem gX5_worthOfPayers_Jx4a65c_size_8abf5 : GoodIn wsX5_worthOfPayers (wsV RX5 67 RJx4a65c yJx4a65c_size_8abf5 wsJx4a65c_size_8abf5) := goodIn_app (goodIn_of _ (by decide +kernel)) ggX5_worthOfPayers_Jx4a65c_size_8abf5
set_option maxRecDepth 20000 in
theorem ggX5_worthOfPayers_Jx4a65c_get_915e3 : GoodIn wsX5_worthOfPayers wsJx4a65c_get_915e3 := goodIn_r _ [12, 8, 13, 14, 15, 16, 17, 18, 19, 20, 21, 22, 23, 6, 24, 25, 94, 95, 96] (by decide +kernel) (by decide +kernel)
set_option maxRecDepth 20000 in
theorem gX5_worthOfPayers_Jx4a65c_get_915e3 : GoodIn wsX5_worthOfPayers (wsV RX5 195 RJx4a65c yJx4a65c_get_915e3 wsJx4a65c_get_915e3) := goodIn_app (goodIn_of _ (by decide +kernel)) ggX5_worthOfPayers_Jx4a65c_get_915e3
set_option maxRecDepth 20000 in
theorem ggX5_worthOfPayers_X1_hasLicence : GoodIn wsX5_worthOfPayers wsX1_hasLicence := goodIn_r _ [30, 31, 32, 33, 29, 34, 35, 36, 37, 38, 39, 40, 41, 42, 43, 44, 45, 46, 47, 48, 49, 4, 5, 6, 7, 8, 50, 10, 11, 12, 13, 14, 15, 16, 17, 18, 19, 20, 21, 22, 23, 24, 25, 51, 52, 53, 54, 55, 56, 57, 58, 59, 60, 61, 62, 63, 64, 65, 66, 67, 68, 69, 70, 97, 98, 99, 100, 101, 102, 103, 104, 105, 106, 107, 94, 95, 96] (by decide +kernel) (by decide +kernel)
set_option maxRecDepth 20000 in
theorem gX5_worthOfPayers_X1_hasLicence : GoodIn wsX5_worthOfPayers (wsV RX5 166 RX1 yX1_hasLicence wsX1_hasLicence) := goodIn_app (goodIn_of _ (by decide +kernel)) ggX5_worthOfPayers_X1_hasLicence
set_option maxRecDepth 20000 in
theorem ggX5_worthOfPayers_X1_worthOn : GoodIn wsX5_worthOfPayers wsX1_worthOn := goodIn_r _ [74, 75, 76, 77, 78, 79, 80, 81, 6, 82, 8, 50, 10, 11, 12, 13, 14, 15, 16, 17, 18, 19, 20, 21, 22, 23, 24, 25, 49, 4, 5, 7, 64, 65, 66, 97, 98, 99, 100, 101, 102, 103, 108, 109, 94, 95, 96] (by decide +kernel) (by decide +kernel)
set_option maxRecDepth 20000 in
theorem gX5_worthOfPayers_X1_worthOn : GoodIn wsX5_worthOfPayers (wsV RX5 139 RX1 yX1_worthOn wsX1_worthOn) := goodIn_app (goodIn_of _ (by decide +kernel)) ggX5_worthOfPayers_X1_worthOn
theorem dX5_worthOfPayers_0 : decode cX5_worthOfPayers 0 = .ok (.lconst 0, 1) := by decide +kernel
theorem dX5_worthOfPayers_1 : decode cX5_worthOfPayers 1 = .ok (.lstore_n 2, 1) := by decide +kernel
theorem dX5_worthOfPayers_2 : decode cX5_worthOfPayers 2 = .ok (.iconst 0, 1) := by decide +kernel
theorem dX5_worthOfPayers_3 : decode cX5_worthOfPayers 3 = .ok (.istore 4, 2) := by decide +kernel
theorem dX5_worthOfPayers_5 : decode cX5_worthOfPayers 5 = .ok (.iload 4, 2) := by decide +kernel
theorem dX5_worthOfPayers_7 : decode cX5_worthOfPayers 7 = .ok (.aload_n 0, 1) := by decide +kernel
theorem dX5_worthOfPayers_8 : decode cX5_worthOfPayers 8 = .ok (.getfield 19, 3) := by decide +kernel
theorem dX5_worthOfPayers_11 : decode cX5_worthOfPayers 11 = .ok (.invokevirtual 67, 3) := by decide +kernel
theorem dX5_worthOfPayers_14 : decode cX5_worthOfPayers 14 = .ok (.if_icmp .ge 42, 3) := by decide +kernel
theorem dX5_worthOfPayers_17 : decode cX5_worthOfPayers 17 = .ok (.aload_n 0, 1) := by decide +kernel
theorem dX5_worthOfPayers_18 : decode cX5_worthOfPayers 18 = .ok (.getfield 19, 3) := by decide +kernel
theorem dX5_worthOfPayers_21 : decode cX5_worthOfPayers 21 = .ok (.iload 4, 2) := by decide +kernel
theorem dX5_worthOfPayers_23 : decode cX5_worthOfPayers 23 = .ok (.invokevirtual 195, 3) := by decide +kernel
theorem dX5_worthOfPayers_26 : decode cX5_worthOfPayers 26 = .ok (.checkcast 93, 3) := by decide +kernel
theorem dX5_worthOfPayers_29 : decode cX5_worthOfPayers 29 = .ok (.astore 5, 2) := by decide +kernel
theorem dX5_worthOfPayers_31 : decode cX5_worthOfPayers 31 = .ok (.aload 5, 2) := by decide +kernel
theorem dX5_worthOfPayers_33 : decode cX5_worthOfPayers 33 = .ok (.iload_n 1, 1) := by decide +kernel
theorem dX5_worthOfPayers_34 : decode cX5_worthOfPayers 34 = .ok (.invokevirtual 166, 3) := by decide +kernel
theorem dX5_worthOfPayers_37 : decode cX5_worthOfPayers 37 = .ok (.ifCond .eq 13, 3) := by decide +kernel
theorem dX5_worthOfPayers_40 : decode cX5_worthOfPayers 40 = .ok (.lload_n 2, 1) := by decide +kernel
theorem dX5_worthOfPayers_41 : decode cX5_worthOfPayers 41 = .ok (.aload 5, 2) := by decide +kernel
theorem dX5_worthOfPayers_43 : decode cX5_worthOfPayers 43 = .ok (.iload_n 1, 1) := by decide +kernel
theorem dX5_worthOfPayers_44 : decode cX5_worthOfPayers 44 = .ok (.invokevirtual 139, 3) := by decide +kernel
theorem dX5_worthOfPayers_47 : decode cX5_worthOfPayers 47 = .ok (.i2l, 1) := by decide +kernel
theorem dX5_worthOfPayers_48 : decode cX5_worthOfPayers 48 = .ok (.ladd, 1) := by decide +kernel
theorem dX5_worthOfPayers_49 : decode cX5_worthOfPayers 49 = .ok (.lstore_n 2, 1) := by decide +kernel
theorem dX5_worthOfPayers_50 : decode cX5_worthOfPayers 50 = .ok (.iinc 4 1, 3) := by decide +kernel
theorem dX5_worthOfPayers_53 : decode cX5_worthOfPayers 53 = .ok (.goto (-48), 3) := by decide +kernel
theorem dX5_worthOfPayers_56 : decode cX5_worthOfPayers 56 = .ok (.lload_n 2, 1) := by decide +kernel
theorem dX5_worthOfPayers_57 : decode cX5_worthOfPayers 57 = .ok (.lreturn, 1) := by decide +kernel
set_option maxRecDepth 20000 in
theorem ggX5_anyLicence_Jx4a65c_size_8abf5 : GoodIn wsX5_anyLicence wsJx4a65c_size_8abf5 := goodIn_r _ [7, 8, 82, 83, 84] (by decide +kernel) (by decide +kernel)
set_option maxRecDepth 20000 in
theorem gX5_anyLicence_Jx4a65c_size_8abf5 : GoodIn wsX5_anyLicence (wsV RX5 67 RJx4a65c yJx4a65c_size_8abf5 wsJx4a65c_size_8abf5) := goodIn_app (goodIn_of _ (by decide +kernel)) ggX5_anyLicence_Jx4a65c_size_8abf5
set_option maxRecDepth 20000 in
theorem ggX5_anyLicence_Jx4a65c_get_915e3 : GoodIn wsX5_anyLicence wsJx4a65c_get_915e3 := goodIn_r _ [12, 8, 13, 14, 15, 16, 17, 18, 19, 20, 21, 22, 23, 6, 24, 25, 82, 83, 84] (by decide +kernel) (by decide +kernel)
set_option maxRecDepth 20000 in
theorem gX5_anyLicence_Jx4a65c_get_915e3 : GoodIn wsX5_anyLicence (wsV RX5 195 RJx4a65c yJx4a65c_get_915e3 wsJx4a65c_get_915e3) := goodIn_app (goodIn_of _ (by decide +kernel)) ggX5_anyLicence_Jx4a65c_get_915e3
set_option maxRecDepth 20000 in
theorem ggX5_anyLicence_X1_hasLicence : GoodIn wsX5_anyLicence wsX1_hasLicence := goodIn_r _ [30, 31, 32, 33, 29, 34, 35, 36, 37, 38, 39, 40, 41, 42, 43, 44, 45, 46, 47, 48, 49, 4, 5, 6, 7, 8, 50, 10, 11, 12, 13, 14, 15, 16, 17, 18, 19, 20, 21, 22, 23, 24, 25, 51, 52, 53, 54, 55, 56, 57, 58, 59, 60, 61, 62, 63, 64, 65, 66, 67, 68, 69, 70, 85, 86, 87, 88, 89, 90, 91, 92, 93, 94, 95, 82, 83, 84] (by decide +kernel) (by decide +kernel)
set_option maxRecDepth 20000 in
theorem gX5_anyLicence_X1_hasLicence : GoodIn wsX5_anyLicence (wsV RX5 166 RX1 yX1_hasLicence wsX1_hasLicence) := goodIn_app (goodIn_of _ (by decide +kernel)) ggX5_anyLicence_X1_hasLicence
theorem dX5_anyLicence_0 : decode cX5_anyLicence 0 = .ok (.iconst 0, 1) := by decide +kernel
theorem dX5_anyLicence_1 : decode cX5_anyLicence 1 = .ok (.istore_n 2, 1) := by decide +kernel
theorem dX5_anyLicence_2 : decode cX5_anyLicence 2 = .ok (.iload_n 2, 1) := by decide +kernel
theorem dX5_anyLicence_3 : decode cX5_anyLicence 3 = .ok (.aload_n 0, 1) := by decide +kernel
theorem dX5_anyLicence_4 : decode cX5_anyLicence 4 = .ok (.getfield 19, 3) := by decide +kernel
theorem dX5_anyLicence_7 : decode cX5_anyLicence 7 = .ok (.invokevirtual 67, 3) := by decide +kernel
theorem dX5_anyLicence_10 : decode cX5_anyLicence 10 = .ok (.if_icmp .ge 29, 3) := by decide +kernel
theorem dX5_anyLicence_13 : decode cX5_anyLicence 13 = .ok (.aload_n 0, 1) := by decide +kernel
theorem dX5_anyLicence_14 : decode cX5_anyLicence 14 = .ok (.getfield 19, 3) := by decide +kernel
theorem dX5_anyLicence_17 : decode cX5_anyLicence 17 = .ok (.iload_n 2, 1) := by decide +kernel
theorem dX5_anyLicence_18 : decode cX5_anyLicence 18 = .ok (.invokevirtual 195, 3) := by decide +kernel
theorem dX5_anyLicence_21 : decode cX5_anyLicence 21 = .ok (.checkcast 93, 3) := by decide +kernel
theorem dX5_anyLicence_24 : decode cX5_anyLicence 24 = .ok (.iload_n 1, 1) := by decide +kernel
theorem dX5_anyLicence_25 : decode cX5_anyLicence 25 = .ok (.invokevirtual 166, 3) := by decide +kernel
theorem dX5_anyLicence_28 : decode cX5_anyLicence 28 = .ok (.ifCond .eq 5, 3) := by decide +kernel
theorem dX5_anyLicence_31 : decode cX5_anyLicence 31 = .ok (.iconst 1, 1) := by decide +kernel
theorem dX5_anyLicence_32 : decode cX5_anyLicence 32 = .ok (.ireturn, 1) := by decide +kernel
theorem dX5_anyLicence_33 : decode cX5_anyLicence 33 = .ok (.iinc 2 1, 3) := by decide +kernel
theorem dX5_anyLicence_36 : decode cX5_anyLicence 36 = .ok (.goto (-34), 3) := by decide +kernel
theorem dX5_anyLicence_39 : decode cX5_anyLicence 39 = .ok (.iconst 0, 1) := by decide +kernel
theorem dX5_anyLicence_40 : decode cX5_anyLicence 40 = .ok (.ireturn, 1) := by decide +kernel
set_option maxRecDepth 20000 in
theorem ggX5_unvisitedOn_Jx4a65c_size_8abf5 : GoodIn wsX5_unvisitedOn wsJx4a65c_size_8abf5 := goodIn_r _ [8, 9, 90, 91, 92] (by decide +kernel) (by decide +kernel)
set_option maxRecDepth 20000 in
theorem gX5_unvisitedOn_Jx4a65c_size_8abf5 : GoodIn wsX5_unvisitedOn (wsV RX5 67 RJx4a65c yJx4a65c_size_8abf5 wsJx4a65c_size_8abf5) := goodIn_app (goodIn_of _ (by decide +kernel)) ggX5_unvisitedOn_Jx4a65c_size_8abf5
set_option maxRecDepth 20000 in
theorem ggX5_unvisitedOn_Jx4a65c_get_915e3 : GoodIn wsX5_unvisitedOn wsJx4a65c_get_915e3 := goodIn_r _ [13, 9, 14, 15, 16, 17, 18, 19, 20, 21, 22, 23, 24, 7, 25, 26, 90, 91, 92] (by decide +kernel) (by decide +kernel)
set_option maxRecDepth 20000 in
theorem gX5_unvisitedOn_Jx4a65c_get_915e3 : GoodIn wsX5_unvisitedOn (wsV RX5 195 RJx4a65c yJx4a65c_get_915e3 wsJx4a65c_get_915e3) := goodIn_app (goodIn_of _ (by decide +kernel)) ggX5_unvisitedOn_Jx4a65c_get_915e3
set_option maxRecDepth 20000 in
theorem ggX5_unvisitedOn_X1_hasLicence : GoodIn wsX5_unvisitedOn wsX1_hasLicence := goodIn_r _ [31, 32, 33, 34, 30, 35, 36, 37, 38, 39, 40, 41, 42, 43, 44, 45, 46, 47, 48, 49, 50, 5, 6, 7, 8, 9, 51, 11, 12, 13, 14, 15, 16, 17, 18, 19, 20, 21, 22, 23, 24, 25, 26, 52, 53, 54, 55, 56, 57, 58, 59, 60, 61, 62, 63, 64, 65, 66, 67, 68, 69, 70, 71, 83, 84, 85, 86, 87, 88, 89, 93, 94, 95, 96, 90, 91, 92] (by decide +kernel) (by decide +kernel)
set_option maxRecDepth 20000 in
theorem gX5_unvisitedOn_X1_hasLicence : GoodIn wsX5_unvisitedOn (wsV RX5 166 RX1 yX1_hasLicence wsX1_hasLicence) := goodIn_app (goodIn_of _ (by decide +kernel)) ggX5_unvisitedOn_X1_hasLicence
theorem dX5_unvisitedOn_0 : decode cX5_unvisitedOn 0 = .ok (.iconst 0, 1) := by decide +kernel
theorem dX5_unvisitedOn_1 : decode cX5_unvisitedOn 1 = .ok (.istore_n 2, 1) := by decide +kernel
theorem dX5_unvisitedOn_2 : decode cX5_unvisitedOn 2 = .ok (.iconst 0, 1) := by decide +kernel
theorem dX5_unvisitedOn_3 : decode cX5_unvisitedOn 3 = .ok (.istore_n 3, 1) := by decide +kernel
theorem dX5_unvisitedOn_4 : decode cX5_unvisitedOn 4 = .ok (.iload_n 3, 1) := by decide +kernel
theorem dX5_unvisitedOn_5 : decode cX5_unvisitedOn 5 = .ok (.aload_n 0, 1) := by decide +kernel
theorem dX5_unvisitedOn_6 : decode cX5_unvisitedOn 6 = .ok (.getfield 19, 3) := by decide +kernel
theorem dX5_unvisitedOn_9 : decode cX5_unvisitedOn 9 = .ok (.invokevirtual 67, 3) := by decide +kernel
theorem dX5_unvisitedOn_12 : decode cX5_unvisitedOn 12 = .ok (.if_icmp .ge 42, 3) := by decide +kernel
theorem dX5_unvisitedOn_15 : decode cX5_unvisitedOn 15 = .ok (.aload_n 0, 1) := by decide +kernel
theorem dX5_unvisitedOn_16 : decode cX5_unvisitedOn 16 = .ok (.getfield 19, 3) := by decide +kernel
theorem dX5_unvisitedOn_19 : decode cX5_unvisitedOn 19 = .ok (.iload_n 3, 1) := by decide +kernel
theorem dX5_unvisitedOn_20 : decode cX5_unvisitedOn 20 = .ok (.invokevirtual 195, 3) := by decide +kernel
theorem dX5_unvisitedOn_23 : decode cX5_unvisitedOn 23 = .ok (.checkcast 93, 3) := by decide +kernel
theorem dX5_unvisitedOn_26 : decode cX5_unvisitedOn 26 = .ok (.astore 4, 2) := by decide +kernel
theorem dX5_unvisitedOn_28 : decode cX5_unvisitedOn 28 = .ok (.aload 4, 2) := by decide +kernel
theorem dX5_unvisitedOn_30 : decode cX5_unvisitedOn 30 = .ok (.getfield 233, 3) := by decide +kernel
theorem dX5_unvisitedOn_33 : decode cX5_unvisitedOn 33 = .ok (.ifCond .ne 15, 3) := by decide +kernel
theorem dX5_unvisitedOn_36 : decode cX5_unvisitedOn 36 = .ok (.aload 4, 2) := by decide +kernel
theorem dX5_unvisitedOn_38 : decode cX5_unvisitedOn 38 = .ok (.iload_n 1, 1) := by decide +kernel
theorem dX5_unvisitedOn_39 : decode cX5_unvisitedOn 39 = .ok (.invokevirtual 166, 3) := by decide +kernel
theorem dX5_unvisitedOn_42 : decode cX5_unvisitedOn 42 = .ok (.ifCond .eq 6, 3) := by decide +kernel
theorem dX5_unvisitedOn_45 : decode cX5_unvisitedOn 45 = .ok (.iinc 2 1, 3) := by decide +kernel
theorem dX5_unvisitedOn_48 : decode cX5_unvisitedOn 48 = .ok (.iinc 3 1, 3) := by decide +kernel
theorem dX5_unvisitedOn_51 : decode cX5_unvisitedOn 51 = .ok (.goto (-47), 3) := by decide +kernel
theorem dX5_unvisitedOn_54 : decode cX5_unvisitedOn 54 = .ok (.iload_n 2, 1) := by decide +kernel
theorem dX5_unvisitedOn_55 : decode cX5_unvisitedOn 55 = .ok (.ireturn, 1) := by decide +kernel
set_option maxRecDepth 20000 in
theorem ggX5_visitUnvisited_Jx4a65c_size_8abf5 : GoodIn wsX5_visitUnvisited wsJx4a65c_size_8abf5 := goodIn_r _ [9, 10, 91, 92, 93] (by decide +kernel) (by decide +kernel)
set_option maxRecDepth 20000 in
theorem gX5_visitUnvisited_Jx4a65c_size_8abf5 : GoodIn wsX5_visitUnvisited (wsV RX5 67 RJx4a65c yJx4a65c_size_8abf5 wsJx4a65c_size_8abf5) := goodIn_app (goodIn_of _ (by decide +kernel)) ggX5_visitUnvisited_Jx4a65c_size_8abf5
set_option maxRecDepth 20000 in
theorem ggX5_visitUnvisited_Jx4a65c_get_915e3 : GoodIn wsX5_visitUnvisited wsJx4a65c_get_915e3 := goodIn_r _ [14, 10, 15, 16, 17, 18, 19, 20, 21, 22, 23, 24, 25, 8, 26, 27, 91, 92, 93] (by decide +kernel) (by decide +kernel)
set_option maxRecDepth 20000 in
theorem gX5_visitUnvisited_Jx4a65c_get_915e3 : GoodIn wsX5_visitUnvisited (wsV RX5 195 RJx4a65c yJx4a65c_get_915e3 wsJx4a65c_get_915e3) := goodIn_app (goodIn_of _ (by decide +kernel)) ggX5_visitUnvisited_Jx4a65c_get_915e3
set_option maxRecDepth 20000 in
theorem ggX5_visitUnvisited_X1_hasLicence : GoodIn wsX5_visitUnvisited wsX1_hasLicence := goodIn_r _ [32, 33, 34, 35, 31, 36, 37, 38, 39, 40, 41, 42, 43, 44, 45, 46, 47, 48, 49, 50, 51, 6, 7, 8, 9, 10, 52, 12, 13, 14, 15, 16, 17, 18, 19, 20, 21, 22, 23, 24, 25, 26, 27, 53, 54, 55, 56, 57, 58, 59, 60, 61, 62, 63, 64, 65, 66, 67, 68, 69, 70, 71, 72, 84, 85, 86, 87, 88, 89, 90, 94, 95, 96, 97, 91, 92, 93] (by decide +kernel) (by decide +kernel)
set_option maxRecDepth 20000 in
theorem gX5_visitUnvisited_X1_hasLicence : GoodIn wsX5_visitUnvisited (wsV RX5 166 RX1 yX1_hasLicence wsX1_hasLicence) := goodIn_app (goodIn_of _ (by decide +kernel)) ggX5_visitUnvisited_X1_hasLicence
theorem dX5_visitUnvisited_0 : decode cX5_visitUnvisited 0 = .ok (.iload_n 2, 1) := by decide +kernel
theorem dX5_visitUnvisited_1 : decode cX5_visitUnvisited 1 = .ok (.istore_n 3, 1) := by decide +kernel
theorem dX5_visitUnvisited_2 : decode cX5_visitUnvisited 2 = .ok (.iconst 0, 1) := by decide +kernel
theorem dX5_visitUnvisited_3 : decode cX5_visitUnvisited 3 = .ok (.istore 4, 2) := by decide +kernel
theorem dX5_visitUnvisited_5 : decode cX5_visitUnvisited 5 = .ok (.iload 4, 2) := by decide +kernel
theorem dX5_visitUnvisited_7 : decode cX5_visitUnvisited 7 = .ok (.aload_n 0, 1) := by decide +kernel
theorem dX5_visitUnvisited_8 : decode cX5_visitUnvisited 8 = .ok (.getfield 19, 3) := by decide +kernel
theorem dX5_visitUnvisited_11 : decode cX5_visitUnvisited 11 = .ok (.invokevirtual 67, 3) := by decide +kernel
theorem dX5_visitUnvisited_14 : decode cX5_visitUnvisited 14 = .ok (.if_icmp .ge 66, 3) := by decide +kernel
theorem dX5_visitUnvisited_17 : decode cX5_visitUnvisited 17 = .ok (.aload_n 0, 1) := by decide +kernel
theorem dX5_visitUnvisited_18 : decode cX5_visitUnvisited 18 = .ok (.getfield 19, 3) := by decide +kernel
theorem dX5_visitUnvisited_21 : decode cX5_visitUnvisited 21 = .ok (.iload 4, 2) := by decide +kernel
theorem dX5_visitUnvisited_23 : decode cX5_visitUnvisited 23 = .ok (.invokevirtual 195, 3) := by decide +kernel
theorem dX5_visitUnvisited_26 : decode cX5_visitUnvisited 26 = .ok (.checkcast 93, 3) := by decide +kernel
theorem dX5_visitUnvisited_29 : decode cX5_visitUnvisited 29 = .ok (.astore 5, 2) := by decide +kernel
theorem dX5_visitUnvisited_31 : decode cX5_visitUnvisited 31 = .ok (.aload 5, 2) := by decide +kernel
theorem dX5_visitUnvisited_33 : decode cX5_visitUnvisited 33 = .ok (.getfield 233, 3) := by decide +kernel
theorem dX5_visitUnvisited_36 : decode cX5_visitUnvisited 36 = .ok (.ifCond .ne 38, 3) := by decide +kernel
theorem dX5_visitUnvisited_39 : decode cX5_visitUnvisited 39 = .ok (.aload 5, 2) := by decide +kernel
theorem dX5_visitUnvisited_41 : decode cX5_visitUnvisited 41 = .ok (.iload_n 1, 1) := by decide +kernel
theorem dX5_visitUnvisited_42 : decode cX5_visitUnvisited 42 = .ok (.invokevirtual 166, 3) := by decide +kernel
theorem dX5_visitUnvisited_45 : decode cX5_visitUnvisited 45 = .ok (.ifCond .eq 29, 3) := by decide +kernel
theorem dX5_visitUnvisited_48 : decode cX5_visitUnvisited 48 = .ok (.iload_n 3, 1) := by decide +kernel
theorem dX5_visitUnvisited_49 : decode cX5_visitUnvisited 49 = .ok (.ifCond .ne 22, 3) := by decide +kernel
theorem dX5_visitUnvisited_52 : decode cX5_visitUnvisited 52 = .ok (.aload 5, 2) := by decide +kernel
theorem dX5_visitUnvisited_54 : decode cX5_visitUnvisited 54 = .ok (.iconst 1, 1) := by decide +kernel
theorem dX5_visitUnvisited_55 : decode cX5_visitUnvisited 55 = .ok (.putfield 233, 3) := by decide +kernel
theorem dX5_visitUnvisited_58 : decode cX5_visitUnvisited 58 = .ok (.aload_n 0, 1) := by decide +kernel
theorem dX5_visitUnvisited_59 : decode cX5_visitUnvisited 59 = .ok (.dup, 1) := by decide +kernel
theorem dX5_visitUnvisited_60 : decode cX5_visitUnvisited 60 = .ok (.getfield 191, 3) := by decide +kernel
theorem dX5_visitUnvisited_63 : decode cX5_visitUnvisited 63 = .ok (.iconst 1, 1) := by decide +kernel
theorem dX5_visitUnvisited_64 : decode cX5_visitUnvisited 64 = .ok (.iadd, 1) := by decide +kernel
theorem dX5_visitUnvisited_65 : decode cX5_visitUnvisited 65 = .ok (.putfield 191, 3) := by decide +kernel
theorem dX5_visitUnvisited_68 : decode cX5_visitUnvisited 68 = .ok (.iload 4, 2) := by decide +kernel
theorem dX5_visitUnvisited_70 : decode cX5_visitUnvisited 70 = .ok (.ireturn, 1) := by decide +kernel
theorem dX5_visitUnvisited_71 : decode cX5_visitUnvisited 71 = .ok (.iinc 3 (-1), 3) := by decide +kernel
theorem dX5_visitUnvisited_74 : decode cX5_visitUnvisited 74 = .ok (.iinc 4 1, 3) := by decide +kernel
theorem dX5_visitUnvisited_77 : decode cX5_visitUnvisited 77 = .ok (.goto (-72), 3) := by decide +kernel
theorem dX5_visitUnvisited_80 : decode cX5_visitUnvisited 80 = .ok (.bipush (-2), 2) := by decide +kernel
theorem dX5_visitUnvisited_82 : decode cX5_visitUnvisited 82 = .ok (.ireturn, 1) := by decide +kernel
set_option maxRecDepth 20000 in
theorem ggX5_beginRound_Jx4a65c_size_8abf5 : GoodIn wsX5_beginRound wsJx4a65c_size_8abf5 := goodIn_r _ [9, 10, 46, 47, 48] (by decide +kernel) (by decide +kernel)
set_option maxRecDepth 20000 in
theorem gX5_beginRound_Jx4a65c_size_8abf5 : GoodIn wsX5_beginRound (wsV RX5 67 RJx4a65c yJx4a65c_size_8abf5 wsJx4a65c_size_8abf5) := goodIn_app (goodIn_of _ (by decide +kernel)) ggX5_beginRound_Jx4a65c_size_8abf5
set_option maxRecDepth 20000 in
theorem ggX5_beginRound_Jx4a65c_get_915e3 : GoodIn wsX5_beginRound wsJx4a65c_get_915e3 := goodIn_r _ [14, 10, 15, 16, 17, 18, 19, 20, 21, 22, 23, 24, 25, 8, 26, 27, 46, 47, 48] (by decide +kernel) (by decide +kernel)
set_option maxRecDepth 20000 in
theorem gX5_beginRound_Jx4a65c_get_915e3 : GoodIn wsX5_beginRound (wsV RX5 195 RJx4a65c yJx4a65c_get_915e3 wsJx4a65c_get_915e3) := goodIn_app (goodIn_of _ (by decide +kernel)) ggX5_beginRound_Jx4a65c_get_915e3
theorem dX5_beginRound_0 : decode cX5_beginRound 0 = .ok (.iconst 0, 1) := by decide +kernel
theorem dX5_beginRound_1 : decode cX5_beginRound 1 = .ok (.istore_n 1, 1) := by decide +kernel
theorem dX5_beginRound_2 : decode cX5_beginRound 2 = .ok (.iload_n 1, 1) := by decide +kernel
theorem dX5_beginRound_3 : decode cX5_beginRound 3 = .ok (.aload_n 0, 1) := by decide +kernel
theorem dX5_beginRound_4 : decode cX5_beginRound 4 = .ok (.getfield 19, 3) := by decide +kernel
theorem dX5_beginRound_7 : decode cX5_beginRound 7 = .ok (.invokevirtual 67, 3) := by decide +kernel
theorem dX5_beginRound_10 : decode cX5_beginRound 10 = .ok (.if_icmp .ge 24, 3) := by decide +kernel
theorem dX5_beginRound_13 : decode cX5_beginRound 13 = .ok (.aload_n 0, 1) := by decide +kernel
theorem dX5_beginRound_14 : decode cX5_beginRound 14 = .ok (.getfield 19, 3) := by decide +kernel
theorem dX5_beginRound_17 : decode cX5_beginRound 17 = .ok (.iload_n 1, 1) := by decide +kernel
theorem dX5_beginRound_18 : decode cX5_beginRound 18 = .ok (.invokevirtual 195, 3) := by decide +kernel
theorem dX5_beginRound_21 : decode cX5_beginRound 21 = .ok (.checkcast 93, 3) := by decide +kernel
theorem dX5_beginRound_24 : decode cX5_beginRound 24 = .ok (.iconst 0, 1) := by decide +kernel
theorem dX5_beginRound_25 : decode cX5_beginRound 25 = .ok (.putfield 233, 3) := by decide +kernel
theorem dX5_beginRound_28 : decode cX5_beginRound 28 = .ok (.iinc 1 1, 3) := by decide +kernel
theorem dX5_beginRound_31 : decode cX5_beginRound 31 = .ok (.goto (-29), 3) := by decide +kernel
theorem dX5_beginRound_34 : decode cX5_beginRound 34 = .ok (.aload_n 0, 1) := by decide +kernel
theorem dX5_beginRound_35 : decode cX5_beginRound 35 = .ok (.iconst 0, 1) := by decide +kernel
theorem dX5_beginRound_36 : decode cX5_beginRound 36 = .ok (.putfield 191, 3) := by decide +kernel
theorem dX5_beginRound_39 : decode cX5_beginRound 39 = .ok (.return_, 1) := by decide +kernel
theorem dX6_init_0 : decode cX6_init 0 = .ok (.aload_n 0, 1) := by decide +kernel
theorem dX6_init_1 : decode cX6_init 1 = .ok (.invokespecial 1, 3) := by decide +kernel
theorem dX6_init_4 : decode cX6_init 4 = .ok (.aload_n 0, 1) := by decide +kernel
theorem dX6_init_5 : decode cX6_init 5 = .ok (.bipush 20, 2) := by decide +kernel
theorem dX6_init_7 : decode cX6_init 7 = .ok (.newarray .int, 2) := by decide +kernel
theorem dX6_init_9 : decode cX6_init 9 = .ok (.putfield 7, 3) := by decide +kernel
theorem dX6_init_12 : decode cX6_init 12 = .ok (.aload_n 0, 1) := by decide +kernel
theorem dX6_init_13 : decode cX6_init 13 = .ok (.bipush 40, 2) := by decide +kernel
theorem dX6_init_15 : decode cX6_init 15 = .ok (.newarray .int, 2) := by decide +kernel
theorem dX6_init_17 : decode cX6_init 17 = .ok (.putfield 13, 3) := by decide +kernel
theorem dX6_init_20 : decode cX6_init 20 = .ok (.aload_n 0, 1) := by decide +kernel
theorem dX6_init_21 : decode cX6_init 21 = .ok (.bipush 40, 2) := by decide +kernel
theorem dX6_init_23 : decode cX6_init 23 = .ok (.newarray .int, 2) := by decide +kernel
theorem dX6_init_25 : decode cX6_init 25 = .ok (.putfield 16, 3) := by decide +kernel
theorem dX6_init_28 : decode cX6_init 28 = .ok (.aload_n 0, 1) := by decide +kernel
theorem dX6_init_29 : decode cX6_init 29 = .ok (.bipush 40, 2) := by decide +kernel
theorem dX6_init_31 : decode cX6_init 31 = .ok (.newarray .int, 2) := by decide +kernel
theorem dX6_init_33 : decode cX6_init 33 = .ok (.putfield 19, 3) := by decide +kernel
theorem dX6_init_36 : decode cX6_init 36 = .ok (.aload_n 0, 1) := by decide +kernel
theorem dX6_init_37 : decode cX6_init 37 = .ok (.bipush 40, 2) := by decide +kernel
theorem dX6_init_39 : decode cX6_init 39 = .ok (.newarray .int, 2) := by decide +kernel
theorem dX6_init_41 : decode cX6_init 41 = .ok (.putfield 22, 3) := by decide +kernel
theorem dX6_init_44 : decode cX6_init 44 = .ok (.aload_n 0, 1) := by decide +kernel
theorem dX6_init_45 : decode cX6_init 45 = .ok (.bipush 40, 2) := by decide +kernel
theorem dX6_init_47 : decode cX6_init 47 = .ok (.newarray .int, 2) := by decide +kernel
theorem dX6_init_49 : decode cX6_init 49 = .ok (.putfield 25, 3) := by decide +kernel
theorem dX6_init_52 : decode cX6_init 52 = .ok (.aload_n 0, 1) := by decide +kernel
theorem dX6_init_53 : decode cX6_init 53 = .ok (.bipush 20, 2) := by decide +kernel
theorem dX6_init_55 : decode cX6_init 55 = .ok (.putfield 28, 3) := by decide +kernel
theorem dX6_init_58 : decode cX6_init 58 = .ok (.aload_n 0, 1) := by decide +kernel
theorem dX6_init_59 : decode cX6_init 59 = .ok (.bipush 100, 2) := by decide +kernel
theorem dX6_init_61 : decode cX6_init 61 = .ok (.putfield 32, 3) := by decide +kernel
theorem dX6_init_64 : decode cX6_init 64 = .ok (.aload_n 0, 1) := by decide +kernel
theorem dX6_init_65 : decode cX6_init 65 = .ok (.bipush 20, 2) := by decide +kernel
theorem dX6_init_67 : decode cX6_init 67 = .ok (.newarray .int, 2) := by decide +kernel
theorem dX6_init_69 : decode cX6_init 69 = .ok (.putfield 35, 3) := by decide +kernel
theorem dX6_init_72 : decode cX6_init 72 = .ok (.aload_n 0, 1) := by decide +kernel
theorem dX6_init_73 : decode cX6_init 73 = .ok (.bipush 20, 2) := by decide +kernel
theorem dX6_init_75 : decode cX6_init 75 = .ok (.newarray .int, 2) := by decide +kernel
theorem dX6_init_77 : decode cX6_init 77 = .ok (.putfield 38, 3) := by decide +kernel
theorem dX6_init_80 : decode cX6_init 80 = .ok (.aload_n 0, 1) := by decide +kernel
theorem dX6_init_81 : decode cX6_init 81 = .ok (.bipush 20, 2) := by decide +kernel
theorem dX6_init_83 : decode cX6_init 83 = .ok (.newarray .int, 2) := by decide +kernel
theorem dX6_init_85 : decode cX6_init 85 = .ok (.putfield 41, 3) := by decide +kernel
theorem dX6_init_88 : decode cX6_init 88 = .ok (.aload_n 0, 1) := by decide +kernel
theorem dX6_init_89 : decode cX6_init 89 = .ok (.bipush 30, 2) := by decide +kernel
theorem dX6_init_91 : decode cX6_init 91 = .ok (.newarray .int, 2) := by decide +kernel
theorem dX6_init_93 : decode cX6_init 93 = .ok (.putfield 44, 3) := by decide +kernel
theorem dX6_init_96 : decode cX6_init 96 = .ok (.aload_n 0, 1) := by decide +kernel
theorem dX6_init_97 : decode cX6_init 97 = .ok (.bipush 30, 2) := by decide +kernel
theorem dX6_init_99 : decode cX6_init 99 = .ok (.newarray .int, 2) := by decide +kernel
theorem dX6_init_101 : decode cX6_init 101 = .ok (.putfield 47, 3) := by decide +kernel
theorem dX6_init_104 : decode cX6_init 104 = .ok (.aload_n 0, 1) := by decide +kernel
theorem dX6_init_105 : decode cX6_init 105 = .ok (.bipush 30, 2) := by decide +kernel
theorem dX6_init_107 : decode cX6_init 107 = .ok (.newarray .int, 2) := by decide +kernel
theorem dX6_init_109 : decode cX6_init 109 = .ok (.putfield 50, 3) := by decide +kernel
theorem dX6_init_112 : decode cX6_init 112 = .ok (.aload_n 0, 1) := by decide +kernel
theorem dX6_init_113 : decode cX6_init 113 = .ok (.bipush 30, 2) := by decide +kernel
theorem dX6_init_115 : decode cX6_init 115 = .ok (.newarray .int, 2) := by decide +kernel
theorem dX6_init_117 : decode cX6_init 117 = .ok (.putfield 53, 3) := by decide +kernel
theorem dX6_init_120 : decode cX6_init 120 = .ok (.aload_n 0, 1) := by decide +kernel
theorem dX6_init_121 : decode cX6_init 121 = .ok (.bipush 30, 2) := by decide +kernel
theorem dX6_init_123 : decode cX6_init 123 = .ok (.newarray .int, 2) := by decide +kernel
theorem dX6_init_125 : decode cX6_init 125 = .ok (.putfield 56, 3) := by decide +kernel
theorem dX6_init_128 : decode cX6_init 128 = .ok (.aload_n 0, 1) := by decide +kernel
theorem dX6_init_129 : decode cX6_init 129 = .ok (.sipush 480, 3) := by decide +kernel
theorem dX6_init_132 : decode cX6_init 132 = .ok (.newarray .int, 2) := by decide +kernel
theorem dX6_init_134 : decode cX6_init 134 = .ok (.putfield 59, 3) := by decide +kernel
theorem dX6_init_137 : decode cX6_init 137 = .ok (.aload_n 0, 1) := by decide +kernel
theorem dX6_init_138 : decode cX6_init 138 = .ok (.sipush 480, 3) := by decide +kernel
theorem dX6_init_141 : decode cX6_init 141 = .ok (.newarray .int, 2) := by decide +kernel
theorem dX6_init_143 : decode cX6_init 143 = .ok (.putfield 62, 3) := by decide +kernel
theorem dX6_init_146 : decode cX6_init 146 = .ok (.aload_n 0, 1) := by decide +kernel
theorem dX6_init_147 : decode cX6_init 147 = .ok (.sipush 480, 3) := by decide +kernel
theorem dX6_init_150 : decode cX6_init 150 = .ok (.newarray .int, 2) := by decide +kernel
theorem dX6_init_152 : decode cX6_init 152 = .ok (.putfield 65, 3) := by decide +kernel
theorem dX6_init_155 : decode cX6_init 155 = .ok (.aload_n 0, 1) := by decide +kernel
theorem dX6_init_156 : decode cX6_init 156 = .ok (.bipush 30, 2) := by decide +kernel
theorem dX6_init_158 : decode cX6_init 158 = .ok (.newarray .int, 2) := by decide +kernel
theorem dX6_init_160 : decode cX6_init 160 = .ok (.putfield 68, 3) := by decide +kernel
theorem dX6_init_163 : decode cX6_init 163 = .ok (.aload_n 0, 1) := by decide +kernel
theorem dX6_init_164 : decode cX6_init 164 = .ok (.sipush 240, 3) := by decide +kernel
theorem dX6_init_167 : decode cX6_init 167 = .ok (.newarray .int, 2) := by decide +kernel
theorem dX6_init_169 : decode cX6_init 169 = .ok (.putfield 71, 3) := by decide +kernel
theorem dX6_init_172 : decode cX6_init 172 = .ok (.aload_n 0, 1) := by decide +kernel
theorem dX6_init_173 : decode cX6_init 173 = .ok (.sipush 240, 3) := by decide +kernel
theorem dX6_init_176 : decode cX6_init 176 = .ok (.newarray .int, 2) := by decide +kernel
theorem dX6_init_178 : decode cX6_init 178 = .ok (.putfield 74, 3) := by decide +kernel
theorem dX6_init_181 : decode cX6_init 181 = .ok (.aload_n 0, 1) := by decide +kernel
theorem dX6_init_182 : decode cX6_init 182 = .ok (.bipush 30, 2) := by decide +kernel
theorem dX6_init_184 : decode cX6_init 184 = .ok (.newarray .boolean, 2) := by decide +kernel
theorem dX6_init_186 : decode cX6_init 186 = .ok (.putfield 77, 3) := by decide +kernel
theorem dX6_init_189 : decode cX6_init 189 = .ok (.aload_n 0, 1) := by decide +kernel
theorem dX6_init_190 : decode cX6_init 190 = .ok (.lconst 1, 1) := by decide +kernel
theorem dX6_init_191 : decode cX6_init 191 = .ok (.putfield 81, 3) := by decide +kernel
theorem dX6_init_194 : decode cX6_init 194 = .ok (.aload_n 0, 1) := by decide +kernel
theorem dX6_init_195 : decode cX6_init 195 = .ok (.bipush 30, 2) := by decide +kernel
theorem dX6_init_197 : decode cX6_init 197 = .ok (.newarray .long, 2) := by decide +kernel
theorem dX6_init_199 : decode cX6_init 199 = .ok (.putfield 85, 3) := by decide +kernel
theorem dX6_init_202 : decode cX6_init 202 = .ok (.aload_n 0, 1) := by decide +kernel
theorem dX6_init_203 : decode cX6_init 203 = .ok (.bipush 30, 2) := by decide +kernel
theorem dX6_init_205 : decode cX6_init 205 = .ok (.newarray .long, 2) := by decide +kernel
theorem dX6_init_207 : decode cX6_init 207 = .ok (.putfield 89, 3) := by decide +kernel
theorem dX6_init_210 : decode cX6_init 210 = .ok (.return_, 1) := by decide +kernel
theorem dX6_in_0 : decode cX6_in 0 = .ok (.iload_n 0, 1) := by decide +kernel
theorem dX6_in_1 : decode cX6_in 1 = .ok (.iload_n 1, 1) := by decide +kernel
theorem dX6_in_2 : decode cX6_in 2 = .ok (.if_icmp .lt 12, 3) := by decide +kernel
theorem dX6_in_5 : decode cX6_in 5 = .ok (.iload_n 0, 1) := by decide +kernel
theorem dX6_in_6 : decode cX6_in 6 = .ok (.iload_n 2, 1) := by decide +kernel
theorem dX6_in_7 : decode cX6_in 7 = .ok (.if_icmp .gt 7, 3) := by decide +kernel
theorem dX6_in_10 : decode cX6_in 10 = .ok (.iconst 1, 1) := by decide +kernel
theorem dX6_in_11 : decode cX6_in 11 = .ok (.goto 4, 3) := by decide +kernel
theorem dX6_in_14 : decode cX6_in 14 = .ok (.iconst 0, 1) := by decide +kernel
theorem dX6_in_15 : decode cX6_in 15 = .ok (.ireturn, 1) := by decide +kernel
set_option maxRecDepth 20000 in
theorem ggX6_isDay_X6_in : GoodIn wsX6_isDay wsX6_in := goodIn_r _ [4] (by decide +kernel) (by decide +kernel)
set_option maxRecDepth 20000 in
theorem gX6_isDay_X6_in : GoodIn wsX6_isDay (va_wsS RX6 92 yX6_in wsX6_in) := goodIn_app (goodIn_of _ (by decide +kernel)) ggX6_isDay_X6_in
theorem dX6_isDay_0 : decode cX6_isDay 0 = .ok (.iload_n 0, 1) := by decide +kernel
theorem dX6_isDay_1 : decode cX6_isDay 1 = .ok (.iconst 0, 1) := by decide +kernel
theorem dX6_isDay_2 : decode cX6_isDay 2 = .ok (.sipush 3999, 3) := by decide +kernel
theorem dX6_isDay_5 : decode cX6_isDay 5 = .ok (.invokestatic 92, 3) := by decide +kernel
theorem dX6_isDay_8 : decode cX6_isDay 8 = .ok (.ireturn, 1) := by decide +kernel
theorem dX6_isFeast_0 : decode cX6_isFeast 0 = .ok (.iconst 0, 1) := by decide +kernel
theorem dX6_isFeast_1 : decode cX6_isFeast 1 = .ok (.istore_n 2, 1) := by decide +kernel
theorem dX6_isFeast_2 : decode cX6_isFeast 2 = .ok (.iconst 0, 1) := by decide +kernel
theorem dX6_isFeast_3 : decode cX6_isFeast 3 = .ok (.istore_n 3, 1) := by decide +kernel
theorem dX6_isFeast_4 : decode cX6_isFeast 4 = .ok (.iload_n 3, 1) := by decide +kernel
theorem dX6_isFeast_5 : decode cX6_isFeast 5 = .ok (.aload_n 0, 1) := by decide +kernel
theorem dX6_isFeast_6 : decode cX6_isFeast 6 = .ok (.getfield 96, 3) := by decide +kernel
theorem dX6_isFeast_9 : decode cX6_isFeast 9 = .ok (.if_icmp .ge 29, 3) := by decide +kernel
theorem dX6_isFeast_12 : decode cX6_isFeast 12 = .ok (.iload_n 2, 1) := by decide +kernel
theorem dX6_isFeast_13 : decode cX6_isFeast 13 = .ok (.ifCond .ne 13, 3) := by decide +kernel
theorem dX6_isFeast_16 : decode cX6_isFeast 16 = .ok (.aload_n 0, 1) := by decide +kernel
theorem dX6_isFeast_17 : decode cX6_isFeast 17 = .ok (.getfield 7, 3) := by decide +kernel
theorem dX6_isFeast_20 : decode cX6_isFeast 20 = .ok (.iload_n 3, 1) := by decide +kernel
theorem dX6_isFeast_21 : decode cX6_isFeast 21 = .ok (.iaload, 1) := by decide +kernel
theorem dX6_isFeast_22 : decode cX6_isFeast 22 = .ok (.iload_n 1, 1) := by decide +kernel
theorem dX6_isFeast_23 : decode cX6_isFeast 23 = .ok (.if_icmp .ne 7, 3) := by decide +kernel
theorem dX6_isFeast_26 : decode cX6_isFeast 26 = .ok (.iconst 1, 1) := by decide +kernel
theorem dX6_isFeast_27 : decode cX6_isFeast 27 = .ok (.goto 4, 3) := by decide +kernel
theorem dX6_isFeast_30 : decode cX6_isFeast 30 = .ok (.iconst 0, 1) := by decide +kernel
theorem dX6_isFeast_31 : decode cX6_isFeast 31 = .ok (.istore_n 2, 1) := by decide +kernel
theorem dX6_isFeast_32 : decode cX6_isFeast 32 = .ok (.iinc 3 1, 3) := by decide +kernel
theorem dX6_isFeast_35 : decode cX6_isFeast 35 = .ok (.goto (-31), 3) := by decide +kernel
theorem dX6_isFeast_38 : decode cX6_isFeast 38 = .ok (.iload_n 2, 1) := by decide +kernel
theorem dX6_isFeast_39 : decode cX6_isFeast 39 = .ok (.ireturn, 1) := by decide +kernel
set_option maxRecDepth 20000 in
theorem ggX6_feast_X6_isDay : GoodIn wsX6_feast wsX6_isDay := goodIn_r _ [6, 7, 8, 5, 9] (by decide +kernel) (by decide +kernel)
set_option maxRecDepth 20000 in
theorem gX6_feast_X6_isDay : GoodIn wsX6_feast (va_wsS RX6 99 yX6_isDay wsX6_isDay) := goodIn_app (goodIn_of _ (by decide +kernel)) ggX6_feast_X6_isDay
set_option maxRecDepth 20000 in
theorem ggX6_feast_X6_isFeast : GoodIn wsX6_feast wsX6_isFeast := goodIn_r _ [13, 1, 2, 14, 15, 16, 17, 18, 19, 20, 21, 22, 23, 24, 25, 26, 27, 28, 29, 30, 31, 32, 33, 34, 35, 36, 37, 38, 39, 40, 41, 42, 43, 44, 45] (by decide +kernel) (by decide +kernel)
set_option maxRecDepth 20000 in
theorem gX6_feast_X6_isFeast : GoodIn wsX6_feast (wsV RX6 103 RX6 yX6_isFeast wsX6_isFeast) := goodIn_app (goodIn_of _ (by decide +kernel)) ggX6_feast_X6_isFeast
theorem dX6_feast_0 : decode cX6_feast 0 = .ok (.iload_n 1, 1) := by decide +kernel
theorem dX6_feast_1 : decode cX6_feast 1 = .ok (.invokestatic 99, 3) := by decide +kernel
theorem dX6_feast_4 : decode cX6_feast 4 = .ok (.ifCond .ne 5, 3) := by decide +kernel
theorem dX6_feast_7 : decode cX6_feast 7 = .ok (.iconst (-1), 1) := by decide +kernel
theorem dX6_feast_8 : decode cX6_feast 8 = .ok (.ireturn, 1) := by decide +kernel
theorem dX6_feast_9 : decode cX6_feast 9 = .ok (.aload_n 0, 1) := by decide +kernel
theorem dX6_feast_10 : decode cX6_feast 10 = .ok (.iload_n 1, 1) := by decide +kernel
theorem dX6_feast_11 : decode cX6_feast 11 = .ok (.invokevirtual 103, 3) := by decide +kernel
theorem dX6_feast_14 : decode cX6_feast 14 = .ok (.ifCond .eq 6, 3) := by decide +kernel
theorem dX6_feast_17 : decode cX6_feast 17 = .ok (.bipush (-2), 2) := by decide +kernel
theorem dX6_feast_19 : decode cX6_feast 19 = .ok (.ireturn, 1) := by decide +kernel
theorem dX6_feast_20 : decode cX6_feast 20 = .ok (.aload_n 0, 1) := by decide +kernel
theorem dX6_feast_21 : decode cX6_feast 21 = .ok (.getfield 96, 3) := by decide +kernel
theorem dX6_feast_24 : decode cX6_feast 24 = .ok (.bipush 20, 2) := by decide +kernel
theorem dX6_feast_26 : decode cX6_feast 26 = .ok (.if_icmp .ne 6, 3) := by decide +kernel
theorem dX6_feast_29 : decode cX6_feast 29 = .ok (.bipush (-3), 2) := by decide +kernel
theorem dX6_feast_31 : decode cX6_feast 31 = .ok (.ireturn, 1) := by decide +kernel
theorem dX6_feast_32 : decode cX6_feast 32 = .ok (.aload_n 0, 1) := by decide +kernel
theorem dX6_feast_33 : decode cX6_feast 33 = .ok (.getfield 7, 3) := by decide +kernel
theorem dX6_feast_36 : decode cX6_feast 36 = .ok (.aload_n 0, 1) := by decide +kernel
theorem dX6_feast_37 : decode cX6_feast 37 = .ok (.getfield 96, 3) := by decide +kernel
theorem dX6_feast_40 : decode cX6_feast 40 = .ok (.iload_n 1, 1) := by decide +kernel
theorem dX6_feast_41 : decode cX6_feast 41 = .ok (.iastore, 1) := by decide +kernel
theorem dX6_feast_42 : decode cX6_feast 42 = .ok (.aload_n 0, 1) := by decide +kernel
theorem dX6_feast_43 : decode cX6_feast 43 = .ok (.dup, 1) := by decide +kernel
theorem dX6_feast_44 : decode cX6_feast 44 = .ok (.getfield 96, 3) := by decide +kernel
theorem dX6_feast_47 : decode cX6_feast 47 = .ok (.iconst 1, 1) := by decide +kernel
theorem dX6_feast_48 : decode cX6_feast 48 = .ok (.iadd, 1) := by decide +kernel
theorem dX6_feast_49 : decode cX6_feast 49 = .ok (.putfield 96, 3) := by decide +kernel
theorem dX6_feast_52 : decode cX6_feast 52 = .ok (.aload_n 0, 1) := by decide +kernel
theorem dX6_feast_53 : decode cX6_feast 53 = .ok (.getfield 96, 3) := by decide +kernel
theorem dX6_feast_56 : decode cX6_feast 56 = .ok (.ireturn, 1) := by decide +kernel
set_option maxRecDepth 20000 in
theorem ggX6_law_X6_isDay : GoodIn wsX6_law wsX6_isDay := goodIn_r _ [10, 11, 12, 9, 13] (by decide +kernel) (by decide +kernel)
set_option maxRecDepth 20000 in
theorem gX6_law_X6_isDay : GoodIn wsX6_law (va_wsS RX6 99 yX6_isDay wsX6_isDay) := goodIn_app (goodIn_of _ (by decide +kernel)) ggX6_law_X6_isDay
set_option maxRecDepth 20000 in
theorem ggX6_law_X6_in : GoodIn wsX6_law wsX6_in := goodIn_r _ [13] (by decide +kernel) (by decide +kernel)
set_option maxRecDepth 20000 in
theorem gX6_law_X6_in : GoodIn wsX6_law (va_wsS RX6 92 yX6_in wsX6_in) := goodIn_app (goodIn_of _ (by decide +kernel)) ggX6_law_X6_in
theorem dX6_law_0 : decode cX6_law 0 = .ok (.iload_n 1, 1) := by decide +kernel
theorem dX6_law_1 : decode cX6_law 1 = .ok (.invokestatic 99, 3) := by decide +kernel
theorem dX6_law_4 : decode cX6_law 4 = .ok (.ifCond .eq 59, 3) := by decide +kernel
theorem dX6_law_7 : decode cX6_law 7 = .ok (.iload_n 2, 1) := by decide +kernel
theorem dX6_law_8 : decode cX6_law 8 = .ok (.iconst 0, 1) := by decide +kernel
theorem dX6_law_9 : decode cX6_law 9 = .ok (.iconst 2, 1) := by decide +kernel
theorem dX6_law_10 : decode cX6_law 10 = .ok (.invokestatic 92, 3) := by decide +kernel
theorem dX6_law_13 : decode cX6_law 13 = .ok (.ifCond .eq 50, 3) := by decide +kernel
theorem dX6_law_16 : decode cX6_law 16 = .ok (.iload_n 3, 1) := by decide +kernel
theorem dX6_law_17 : decode cX6_law 17 = .ok (.iconst 0, 1) := by decide +kernel
theorem dX6_law_18 : decode cX6_law 18 = .ok (.bipush 7, 2) := by decide +kernel
theorem dX6_law_20 : decode cX6_law 20 = .ok (.invokestatic 92, 3) := by decide +kernel
theorem dX6_law_23 : decode cX6_law 23 = .ok (.ifCond .eq 40, 3) := by decide +kernel
theorem dX6_law_26 : decode cX6_law 26 = .ok (.iload 4, 2) := by decide +kernel
theorem dX6_law_28 : decode cX6_law 28 = .ok (.ifCond .ne 8, 3) := by decide +kernel
theorem dX6_law_31 : decode cX6_law 31 = .ok (.iload 5, 2) := by decide +kernel
theorem dX6_law_33 : decode cX6_law 33 = .ok (.ifCond .eq 32, 3) := by decide +kernel
theorem dX6_law_36 : decode cX6_law 36 = .ok (.iload 4, 2) := by decide +kernel
theorem dX6_law_38 : decode cX6_law 38 = .ok (.iconst 0, 1) := by decide +kernel
theorem dX6_law_39 : decode cX6_law 39 = .ok (.sipush 1439, 3) := by decide +kernel
theorem dX6_law_42 : decode cX6_law 42 = .ok (.invokestatic 92, 3) := by decide +kernel
theorem dX6_law_45 : decode cX6_law 45 = .ok (.ifCond .eq 18, 3) := by decide +kernel
theorem dX6_law_48 : decode cX6_law 48 = .ok (.iload 4, 2) := by decide +kernel
theorem dX6_law_50 : decode cX6_law 50 = .ok (.iload 5, 2) := by decide +kernel
theorem dX6_law_52 : decode cX6_law 52 = .ok (.if_icmp .ge 11, 3) := by decide +kernel
theorem dX6_law_55 : decode cX6_law 55 = .ok (.iload 5, 2) := by decide +kernel
theorem dX6_law_57 : decode cX6_law 57 = .ok (.sipush 1800, 3) := by decide +kernel
theorem dX6_law_60 : decode cX6_law 60 = .ok (.if_icmp .le 5, 3) := by decide +kernel
theorem dX6_law_63 : decode cX6_law 63 = .ok (.iconst (-1), 1) := by decide +kernel
theorem dX6_law_64 : decode cX6_law 64 = .ok (.ireturn, 1) := by decide +kernel
theorem dX6_law_65 : decode cX6_law 65 = .ok (.aload_n 0, 1) := by decide +kernel
theorem dX6_law_66 : decode cX6_law 66 = .ok (.getfield 106, 3) := by decide +kernel
theorem dX6_law_69 : decode cX6_law 69 = .ok (.bipush 40, 2) := by decide +kernel
theorem dX6_law_71 : decode cX6_law 71 = .ok (.if_icmp .ne 6, 3) := by decide +kernel
theorem dX6_law_74 : decode cX6_law 74 = .ok (.bipush (-3), 2) := by decide +kernel
theorem dX6_law_76 : decode cX6_law 76 = .ok (.ireturn, 1) := by decide +kernel
theorem dX6_law_77 : decode cX6_law 77 = .ok (.aload_n 0, 1) := by decide +kernel
theorem dX6_law_78 : decode cX6_law 78 = .ok (.getfield 13, 3) := by decide +kernel
theorem dX6_law_81 : decode cX6_law 81 = .ok (.aload_n 0, 1) := by decide +kernel
theorem dX6_law_82 : decode cX6_law 82 = .ok (.getfield 106, 3) := by decide +kernel
theorem dX6_law_85 : decode cX6_law 85 = .ok (.iload_n 1, 1) := by decide +kernel
theorem dX6_law_86 : decode cX6_law 86 = .ok (.iastore, 1) := by decide +kernel
theorem dX6_law_87 : decode cX6_law 87 = .ok (.aload_n 0, 1) := by decide +kernel
theorem dX6_law_88 : decode cX6_law 88 = .ok (.getfield 16, 3) := by decide +kernel
theorem dX6_law_91 : decode cX6_law 91 = .ok (.aload_n 0, 1) := by decide +kernel
theorem dX6_law_92 : decode cX6_law 92 = .ok (.getfield 106, 3) := by decide +kernel
theorem dX6_law_95 : decode cX6_law 95 = .ok (.iload_n 2, 1) := by decide +kernel
theorem dX6_law_96 : decode cX6_law 96 = .ok (.iastore, 1) := by decide +kernel
theorem dX6_law_97 : decode cX6_law 97 = .ok (.aload_n 0, 1) := by decide +kernel
theorem dX6_law_98 : decode cX6_law 98 = .ok (.getfield 19, 3) := by decide +kernel
theorem dX6_law_101 : decode cX6_law 101 = .ok (.aload_n 0, 1) := by decide +kernel
theorem dX6_law_102 : decode cX6_law 102 = .ok (.getfield 106, 3) := by decide +kernel
theorem dX6_law_105 : decode cX6_law 105 = .ok (.iload_n 3, 1) := by decide +kernel
theorem dX6_law_106 : decode cX6_law 106 = .ok (.iastore, 1) := by decide +kernel
theorem dX6_law_107 : decode cX6_law 107 = .ok (.aload_n 0, 1) := by decide +kernel
theorem dX6_law_108 : decode cX6_law 108 = .ok (.getfield 22, 3) := by decide +kernel
theorem dX6_law_111 : decode cX6_law 111 = .ok (.aload_n 0, 1) := by decide +kernel
theorem dX6_law_112 : decode cX6_law 112 = .ok (.getfield 106, 3) := by decide +kernel
theorem dX6_law_115 : decode cX6_law 115 = .ok (.iload 4, 2) := by decide +kernel
theorem dX6_law_117 : decode cX6_law 117 = .ok (.iastore, 1) := by decide +kernel
theorem dX6_law_118 : decode cX6_law 118 = .ok (.aload_n 0, 1) := by decide +kernel
theorem dX6_law_119 : decode cX6_law 119 = .ok (.getfield 25, 3) := by decide +kernel
theorem dX6_law_122 : decode cX6_law 122 = .ok (.aload_n 0, 1) := by decide +kernel
theorem dX6_law_123 : decode cX6_law 123 = .ok (.getfield 106, 3) := by decide +kernel
theorem dX6_law_126 : decode cX6_law 126 = .ok (.iload 5, 2) := by decide +kernel
theorem dX6_law_128 : decode cX6_law 128 = .ok (.iastore, 1) := by decide +kernel
theorem dX6_law_129 : decode cX6_law 129 = .ok (.aload_n 0, 1) := by decide +kernel
theorem dX6_law_130 : decode cX6_law 130 = .ok (.dup, 1) := by decide +kernel
theorem dX6_law_131 : decode cX6_law 131 = .ok (.getfield 106, 3) := by decide +kernel
theorem dX6_law_134 : decode cX6_law 134 = .ok (.iconst 1, 1) := by decide +kernel
theorem dX6_law_135 : decode cX6_law 135 = .ok (.iadd, 1) := by decide +kernel
theorem dX6_law_136 : decode cX6_law 136 = .ok (.putfield 106, 3) := by decide +kernel
theorem dX6_law_139 : decode cX6_law 139 = .ok (.aload_n 0, 1) := by decide +kernel
theorem dX6_law_140 : decode cX6_law 140 = .ok (.getfield 106, 3) := by decide +kernel
theorem dX6_law_143 : decode cX6_law 143 = .ok (.ireturn, 1) := by decide +kernel
set_option maxRecDepth 20000 in
theorem ggX6_rule_X6_in : GoodIn wsX6_rule wsX6_in := goodIn_r _ [6] (by decide +kernel) (by decide +kernel)
set_option maxRecDepth 20000 in
theorem gX6_rule_X6_in : GoodIn wsX6_rule (va_wsS RX6 92 yX6_in wsX6_in) := goodIn_app (goodIn_of _ (by decide +kernel)) ggX6_rule_X6_in
theorem dX6_rule_0 : decode cX6_rule 0 = .ok (.iload_n 1, 1) := by decide +kernel
theorem dX6_rule_1 : decode cX6_rule 1 = .ok (.iconst 0, 1) := by decide +kernel
theorem dX6_rule_2 : decode cX6_rule 2 = .ok (.iconst 1, 1) := by decide +kernel
theorem dX6_rule_3 : decode cX6_rule 3 = .ok (.invokestatic 92, 3) := by decide +kernel
theorem dX6_rule_6 : decode cX6_rule 6 = .ok (.ifCond .eq 24, 3) := by decide +kernel
theorem dX6_rule_9 : decode cX6_rule 9 = .ok (.iload_n 2, 1) := by decide +kernel
theorem dX6_rule_10 : decode cX6_rule 10 = .ok (.iconst 0, 1) := by decide +kernel
theorem dX6_rule_11 : decode cX6_rule 11 = .ok (.iload_n 1, 1) := by decide +kernel
theorem dX6_rule_12 : decode cX6_rule 12 = .ok (.ifCond .ne 9, 3) := by decide +kernel
theorem dX6_rule_15 : decode cX6_rule 15 = .ok (.sipush 200, 3) := by decide +kernel
theorem dX6_rule_18 : decode cX6_rule 18 = .ok (.goto 6, 3) := by decide +kernel
theorem dX6_rule_21 : decode cX6_rule 21 = .ok (.sipush 500, 3) := by decide +kernel
theorem dX6_rule_24 : decode cX6_rule 24 = .ok (.invokestatic 92, 3) := by decide +kernel
theorem dX6_rule_27 : decode cX6_rule 27 = .ok (.ifCond .ne 5, 3) := by decide +kernel
theorem dX6_rule_30 : decode cX6_rule 30 = .ok (.iconst (-1), 1) := by decide +kernel
theorem dX6_rule_31 : decode cX6_rule 31 = .ok (.ireturn, 1) := by decide +kernel
theorem dX6_rule_32 : decode cX6_rule 32 = .ok (.iload_n 1, 1) := by decide +kernel
theorem dX6_rule_33 : decode cX6_rule 33 = .ok (.ifCond .ne 10, 3) := by decide +kernel
theorem dX6_rule_36 : decode cX6_rule 36 = .ok (.aload_n 0, 1) := by decide +kernel
theorem dX6_rule_37 : decode cX6_rule 37 = .ok (.getfield 28, 3) := by decide +kernel
theorem dX6_rule_40 : decode cX6_rule 40 = .ok (.goto 7, 3) := by decide +kernel
theorem dX6_rule_43 : decode cX6_rule 43 = .ok (.aload_n 0, 1) := by decide +kernel
theorem dX6_rule_44 : decode cX6_rule 44 = .ok (.getfield 32, 3) := by decide +kernel
theorem dX6_rule_47 : decode cX6_rule 47 = .ok (.istore_n 3, 1) := by decide +kernel
theorem dX6_rule_48 : decode cX6_rule 48 = .ok (.aload_n 0, 1) := by decide +kernel
theorem dX6_rule_49 : decode cX6_rule 49 = .ok (.iload_n 1, 1) := by decide +kernel
theorem dX6_rule_50 : decode cX6_rule 50 = .ok (.ifCond .ne 7, 3) := by decide +kernel
theorem dX6_rule_53 : decode cX6_rule 53 = .ok (.iload_n 2, 1) := by decide +kernel
theorem dX6_rule_54 : decode cX6_rule 54 = .ok (.goto 7, 3) := by decide +kernel
theorem dX6_rule_57 : decode cX6_rule 57 = .ok (.aload_n 0, 1) := by decide +kernel
theorem dX6_rule_58 : decode cX6_rule 58 = .ok (.getfield 28, 3) := by decide +kernel
theorem dX6_rule_61 : decode cX6_rule 61 = .ok (.putfield 28, 3) := by decide +kernel
theorem dX6_rule_64 : decode cX6_rule 64 = .ok (.aload_n 0, 1) := by decide +kernel
theorem dX6_rule_65 : decode cX6_rule 65 = .ok (.iload_n 1, 1) := by decide +kernel
theorem dX6_rule_66 : decode cX6_rule 66 = .ok (.iconst 1, 1) := by decide +kernel
theorem dX6_rule_67 : decode cX6_rule 67 = .ok (.if_icmp .ne 7, 3) := by decide +kernel
theorem dX6_rule_70 : decode cX6_rule 70 = .ok (.iload_n 2, 1) := by decide +kernel
theorem dX6_rule_71 : decode cX6_rule 71 = .ok (.goto 7, 3) := by decide +kernel
theorem dX6_rule_74 : decode cX6_rule 74 = .ok (.aload_n 0, 1) := by decide +kernel
theorem dX6_rule_75 : decode cX6_rule 75 = .ok (.getfield 32, 3) := by decide +kernel
theorem dX6_rule_78 : decode cX6_rule 78 = .ok (.putfield 32, 3) := by decide +kernel
theorem dX6_rule_81 : decode cX6_rule 81 = .ok (.iload_n 3, 1) := by decide +kernel
theorem dX6_rule_82 : decode cX6_rule 82 = .ok (.ireturn, 1) := by decide +kernel
set_option maxRecDepth 20000 in
theorem ggX6_isPlace_X6_in : GoodIn wsX6_isPlace wsX6_in := goodIn_r _ [4] (by decide +kernel) (by decide +kernel)
set_option maxRecDepth 20000 in
theorem gX6_isPlace_X6_in : GoodIn wsX6_isPlace (va_wsS RX6 92 yX6_in wsX6_in) := goodIn_app (goodIn_of _ (by decide +kernel)) ggX6_isPlace_X6_in
theorem dX6_isPlace_0 : decode cX6_isPlace 0 = .ok (.iload_n 0, 1) := by decide +kernel
theorem dX6_isPlace_1 : decode cX6_isPlace 1 = .ok (.iconst 0, 1) := by decide +kernel
theorem dX6_isPlace_2 : decode cX6_isPlace 2 = .ok (.sipush 999, 3) := by decide +kernel
theorem dX6_isPlace_5 : decode cX6_isPlace 5 = .ok (.invokestatic 92, 3) := by decide +kernel
theorem dX6_isPlace_8 : decode cX6_isPlace 8 = .ok (.ifCond .eq 18, 3) := by decide +kernel
theorem dX6_isPlace_11 : decode cX6_isPlace 11 = .ok (.iload_n 1, 1) := by decide +kernel
theorem dX6_isPlace_12 : decode cX6_isPlace 12 = .ok (.iconst 0, 1) := by decide +kernel
theorem dX6_isPlace_13 : decode cX6_isPlace 13 = .ok (.sipush 999, 3) := by decide +kernel
theorem dX6_isPlace_16 : decode cX6_isPlace 16 = .ok (.invokestatic 92, 3) := by decide +kernel
theorem dX6_isPlace_19 : decode cX6_isPlace 19 = .ok (.ifCond .eq 7, 3) := by decide +kernel
theorem dX6_isPlace_22 : decode cX6_isPlace 22 = .ok (.iconst 1, 1) := by decide +kernel
theorem dX6_isPlace_23 : decode cX6_isPlace 23 = .ok (.goto 4, 3) := by decide +kernel
theorem dX6_isPlace_26 : decode cX6_isPlace 26 = .ok (.iconst 0, 1) := by decide +kernel
theorem dX6_isPlace_27 : decode cX6_isPlace 27 = .ok (.ireturn, 1) := by decide +kernel
set_option maxRecDepth 20000 in
theorem ggX6_objector_X6_isPlace : GoodIn wsX6_objector wsX6_isPlace := goodIn_r _ [8, 9, 10, 7, 11] (by decide +kernel) (by decide +kernel)
set_option maxRecDepth 20000 in
theorem gX6_objector_X6_isPlace : GoodIn wsX6_objector (va_wsS RX6 109 yX6_isPlace wsX6_isPlace) := goodIn_app (goodIn_of _ (by decide +kernel)) ggX6_objector_X6_isPlace
set_option maxRecDepth 20000 in
theorem ggX6_objector_X6_in : GoodIn wsX6_objector wsX6_in := goodIn_r _ [11] (by decide +kernel) (by decide +kernel)
set_option maxRecDepth 20000 in
theorem gX6_objector_X6_in : GoodIn wsX6_objector (va_wsS RX6 92 yX6_in wsX6_in) := goodIn_app (goodIn_of _ (by decide +kernel)) ggX6_objector_X6_in
theorem dX6_objector_0 : decode cX6_objector 0 = .ok (.iload_n 1, 1) := by decide +kernel
theorem dX6_objector_1 : decode cX6_objector 1 = .ok (.iload_n 2, 1) := by decide +kernel
theorem dX6_objector_2 : decode cX6_objector 2 = .ok (.invokestatic 109, 3) := by decide +kernel
theorem dX6_objector_5 : decode cX6_objector 5 = .ok (.ifCond .eq 13, 3) := by decide +kernel
theorem dX6_objector_8 : decode cX6_objector 8 = .ok (.iload_n 3, 1) := by decide +kernel
theorem dX6_objector_9 : decode cX6_objector 9 = .ok (.iconst 1, 1) := by decide +kernel
theorem dX6_objector_10 : decode cX6_objector 10 = .ok (.bipush 10, 2) := by decide +kernel
theorem dX6_objector_12 : decode cX6_objector 12 = .ok (.invokestatic 92, 3) := by decide +kernel
theorem dX6_objector_15 : decode cX6_objector 15 = .ok (.ifCond .ne 5, 3) := by decide +kernel
theorem dX6_objector_18 : decode cX6_objector 18 = .ok (.iconst (-1), 1) := by decide +kernel
theorem dX6_objector_19 : decode cX6_objector 19 = .ok (.ireturn, 1) := by decide +kernel
theorem dX6_objector_20 : decode cX6_objector 20 = .ok (.aload_n 0, 1) := by decide +kernel
theorem dX6_objector_21 : decode cX6_objector 21 = .ok (.getfield 113, 3) := by decide +kernel
theorem dX6_objector_24 : decode cX6_objector 24 = .ok (.bipush 20, 2) := by decide +kernel
theorem dX6_objector_26 : decode cX6_objector 26 = .ok (.if_icmp .ne 6, 3) := by decide +kernel
theorem dX6_objector_29 : decode cX6_objector 29 = .ok (.bipush (-3), 2) := by decide +kernel
theorem dX6_objector_31 : decode cX6_objector 31 = .ok (.ireturn, 1) := by decide +kernel
theorem dX6_objector_32 : decode cX6_objector 32 = .ok (.aload_n 0, 1) := by decide +kernel
theorem dX6_objector_33 : decode cX6_objector 33 = .ok (.getfield 35, 3) := by decide +kernel
theorem dX6_objector_36 : decode cX6_objector 36 = .ok (.aload_n 0, 1) := by decide +kernel
theorem dX6_objector_37 : decode cX6_objector 37 = .ok (.getfield 113, 3) := by decide +kernel
theorem dX6_objector_40 : decode cX6_objector 40 = .ok (.iload_n 1, 1) := by decide +kernel
theorem dX6_objector_41 : decode cX6_objector 41 = .ok (.iastore, 1) := by decide +kernel
theorem dX6_objector_42 : decode cX6_objector 42 = .ok (.aload_n 0, 1) := by decide +kernel
theorem dX6_objector_43 : decode cX6_objector 43 = .ok (.getfield 38, 3) := by decide +kernel
theorem dX6_objector_46 : decode cX6_objector 46 = .ok (.aload_n 0, 1) := by decide +kernel
theorem dX6_objector_47 : decode cX6_objector 47 = .ok (.getfield 113, 3) := by decide +kernel
theorem dX6_objector_50 : decode cX6_objector 50 = .ok (.iload_n 2, 1) := by decide +kernel
theorem dX6_objector_51 : decode cX6_objector 51 = .ok (.iastore, 1) := by decide +kernel
theorem dX6_objector_52 : decode cX6_objector 52 = .ok (.aload_n 0, 1) := by decide +kernel
theorem dX6_objector_53 : decode cX6_objector 53 = .ok (.getfield 41, 3) := by decide +kernel
theorem dX6_objector_56 : decode cX6_objector 56 = .ok (.aload_n 0, 1) := by decide +kernel
theorem dX6_objector_57 : decode cX6_objector 57 = .ok (.getfield 113, 3) := by decide +kernel
theorem dX6_objector_60 : decode cX6_objector 60 = .ok (.iload_n 3, 1) := by decide +kernel
theorem dX6_objector_61 : decode cX6_objector 61 = .ok (.iastore, 1) := by decide +kernel
theorem dX6_objector_62 : decode cX6_objector 62 = .ok (.aload_n 0, 1) := by decide +kernel
theorem dX6_objector_63 : decode cX6_objector 63 = .ok (.dup, 1) := by decide +kernel
theorem dX6_objector_64 : decode cX6_objector 64 = .ok (.getfield 113, 3) := by decide +kernel
theorem dX6_objector_67 : decode cX6_objector 67 = .ok (.iconst 1, 1) := by decide +kernel
theorem dX6_objector_68 : decode cX6_objector 68 = .ok (.iadd, 1) := by decide +kernel
theorem dX6_objector_69 : decode cX6_objector 69 = .ok (.putfield 113, 3) := by decide +kernel
theorem dX6_objector_72 : decode cX6_objector 72 = .ok (.aload_n 0, 1) := by decide +kernel
theorem dX6_objector_73 : decode cX6_objector 73 = .ok (.getfield 113, 3) := by decide +kernel
theorem dX6_objector_76 : decode cX6_objector 76 = .ok (.ireturn, 1) := by decide +kernel
theorem dX6_off_0 : decode cX6_off 0 = .ok (.iload_n 0, 1) := by decide +kernel
theorem dX6_off_1 : decode cX6_off 1 = .ok (.iload_n 2, 1) := by decide +kernel
theorem dX6_off_2 : decode cX6_off 2 = .ok (.isub, 1) := by decide +kernel
theorem dX6_off_3 : decode cX6_off 3 = .ok (.iload_n 0, 1) := by decide +kernel
theorem dX6_off_4 : decode cX6_off 4 = .ok (.iload_n 2, 1) := by decide +kernel
theorem dX6_off_5 : decode cX6_off 5 = .ok (.isub, 1) := by decide +kernel
theorem dX6_off_6 : decode cX6_off 6 = .ok (.imul, 1) := by decide +kernel
theorem dX6_off_7 : decode cX6_off 7 = .ok (.iload_n 1, 1) := by decide +kernel
theorem dX6_off_8 : decode cX6_off 8 = .ok (.iload_n 3, 1) := by decide +kernel
theorem dX6_off_9 : decode cX6_off 9 = .ok (.isub, 1) := by decide +kernel
theorem dX6_off_10 : decode cX6_off 10 = .ok (.iload_n 1, 1) := by decide +kernel
theorem dX6_off_11 : decode cX6_off 11 = .ok (.iload_n 3, 1) := by decide +kernel
theorem dX6_off_12 : decode cX6_off 12 = .ok (.isub, 1) := by decide +kernel
theorem dX6_off_13 : decode cX6_off 13 = .ok (.imul, 1) := by decide +kernel
theorem dX6_off_14 : decode cX6_off 14 = .ok (.iadd, 1) := by decide +kernel
theorem dX6_off_15 : decode cX6_off 15 = .ok (.ireturn, 1) := by decide +kernel
set_option maxRecDepth 20000 in
theorem ggX6_judged_X6_has : GoodIn wsX6_judged wsX6_has := goodIn_r _ [14, 15, 16, 17, 13, 18, 19, 20, 21, 22, 23, 24, 25, 26, 27, 28, 29, 30, 31, 32, 33, 34, 35, 36, 37, 38, 39, 40, 41, 42, 43, 47, 48, 49, 50, 51, 52, 53, 54, 55, 56, 57, 58, 59, 60, 61, 62, 63, 64, 65, 66, 67, 68, 69, 70, 71, 72, 73, 74, 75, 76, 77, 78] (by decide +kernel) (by decide +kernel)
set_option maxRecDepth 20000 in
theorem gX6_judged_X6_has : GoodIn wsX6_judged (wsV RX6 119 RX6 yX6_has wsX6_has) := goodIn_app (goodIn_of _ (by decide +kernel)) ggX6_judged_X6_has
set_option maxRecDepth 20000 in
theorem ggX6_judged_X6_off : GoodIn wsX6_judged wsX6_off := goodIn_r _ [46] (by decide +kernel) (by decide +kernel)
set_option maxRecDepth 20000 in
theorem gX6_judged_X6_off : GoodIn wsX6_judged (va_wsS RX6 122 yX6_off wsX6_off) := goodIn_app (goodIn_of _ (by decide +kernel)) ggX6_judged_X6_off
theorem dX6_judged_0 : decode cX6_judged 0 = .ok (.iload 4, 2) := by decide +kernel
theorem dX6_judged_2 : decode cX6_judged 2 = .ok (.iload_n 3, 1) := by decide +kernel
theorem dX6_judged_3 : decode cX6_judged 3 = .ok (.isub, 1) := by decide +kernel
theorem dX6_judged_4 : decode cX6_judged 4 = .ok (.bipush 21, 2) := by decide +kernel
theorem dX6_judged_6 : decode cX6_judged 6 = .ok (.if_icmp .ge 5, 3) := by decide +kernel
theorem dX6_judged_9 : decode cX6_judged 9 = .ok (.iconst 1, 1) := by decide +kernel
theorem dX6_judged_10 : decode cX6_judged 10 = .ok (.ireturn, 1) := by decide +kernel
theorem dX6_judged_11 : decode cX6_judged 11 = .ok (.iconst 0, 1) := by decide +kernel
theorem dX6_judged_12 : decode cX6_judged 12 = .ok (.istore 5, 2) := by decide +kernel
theorem dX6_judged_14 : decode cX6_judged 14 = .ok (.iload 5, 2) := by decide +kernel
theorem dX6_judged_16 : decode cX6_judged 16 = .ok (.aload_n 0, 1) := by decide +kernel
theorem dX6_judged_17 : decode cX6_judged 17 = .ok (.getfield 116, 3) := by decide +kernel
theorem dX6_judged_20 : decode cX6_judged 20 = .ok (.if_icmp .ge 53, 3) := by decide +kernel
theorem dX6_judged_23 : decode cX6_judged 23 = .ok (.aload_n 0, 1) := by decide +kernel
theorem dX6_judged_24 : decode cX6_judged 24 = .ok (.iload 5, 2) := by decide +kernel
theorem dX6_judged_26 : decode cX6_judged 26 = .ok (.iload 4, 2) := by decide +kernel
theorem dX6_judged_28 : decode cX6_judged 28 = .ok (.invokevirtual 119, 3) := by decide +kernel
theorem dX6_judged_31 : decode cX6_judged 31 = .ok (.ifCond .eq 36, 3) := by decide +kernel
theorem dX6_judged_34 : decode cX6_judged 34 = .ok (.iload_n 1, 1) := by decide +kernel
theorem dX6_judged_35 : decode cX6_judged 35 = .ok (.iload_n 2, 1) := by decide +kernel
theorem dX6_judged_36 : decode cX6_judged 36 = .ok (.aload_n 0, 1) := by decide +kernel
theorem dX6_judged_37 : decode cX6_judged 37 = .ok (.getfield 44, 3) := by decide +kernel
theorem dX6_judged_40 : decode cX6_judged 40 = .ok (.iload 5, 2) := by decide +kernel
theorem dX6_judged_42 : decode cX6_judged 42 = .ok (.iaload, 1) := by decide +kernel
theorem dX6_judged_43 : decode cX6_judged 43 = .ok (.aload_n 0, 1) := by decide +kernel
theorem dX6_judged_44 : decode cX6_judged 44 = .ok (.getfield 47, 3) := by decide +kernel
theorem dX6_judged_47 : decode cX6_judged 47 = .ok (.iload 5, 2) := by decide +kernel
theorem dX6_judged_49 : decode cX6_judged 49 = .ok (.iaload, 1) := by decide +kernel
theorem dX6_judged_50 : decode cX6_judged 50 = .ok (.invokestatic 122, 3) := by decide +kernel
theorem dX6_judged_53 : decode cX6_judged 53 = .ok (.aload_n 0, 1) := by decide +kernel
theorem dX6_judged_54 : decode cX6_judged 54 = .ok (.getfield 28, 3) := by decide +kernel
theorem dX6_judged_57 : decode cX6_judged 57 = .ok (.aload_n 0, 1) := by decide +kernel
theorem dX6_judged_58 : decode cX6_judged 58 = .ok (.getfield 28, 3) := by decide +kernel
theorem dX6_judged_61 : decode cX6_judged 61 = .ok (.imul, 1) := by decide +kernel
theorem dX6_judged_62 : decode cX6_judged 62 = .ok (.if_icmp .ge 5, 3) := by decide +kernel
theorem dX6_judged_65 : decode cX6_judged 65 = .ok (.iconst 2, 1) := by decide +kernel
theorem dX6_judged_66 : decode cX6_judged 66 = .ok (.ireturn, 1) := by decide +kernel
theorem dX6_judged_67 : decode cX6_judged 67 = .ok (.iinc 5 1, 3) := by decide +kernel
theorem dX6_judged_70 : decode cX6_judged 70 = .ok (.goto (-56), 3) := by decide +kernel
theorem dX6_judged_73 : decode cX6_judged 73 = .ok (.iconst 0, 1) := by decide +kernel
theorem dX6_judged_74 : decode cX6_judged 74 = .ok (.istore 5, 2) := by decide +kernel
theorem dX6_judged_76 : decode cX6_judged 76 = .ok (.iconst 0, 1) := by decide +kernel
theorem dX6_judged_77 : decode cX6_judged 77 = .ok (.istore 6, 2) := by decide +kernel
theorem dX6_judged_79 : decode cX6_judged 79 = .ok (.iload 6, 2) := by decide +kernel
theorem dX6_judged_81 : decode cX6_judged 81 = .ok (.aload_n 0, 1) := by decide +kernel
theorem dX6_judged_82 : decode cX6_judged 82 = .ok (.getfield 113, 3) := by decide +kernel
theorem dX6_judged_85 : decode cX6_judged 85 = .ok (.if_icmp .ge 56, 3) := by decide +kernel
theorem dX6_judged_88 : decode cX6_judged 88 = .ok (.iload 5, 2) := by decide +kernel
theorem dX6_judged_90 : decode cX6_judged 90 = .ok (.iload_n 1, 1) := by decide +kernel
theorem dX6_judged_91 : decode cX6_judged 91 = .ok (.iload_n 2, 1) := by decide +kernel
theorem dX6_judged_92 : decode cX6_judged 92 = .ok (.aload_n 0, 1) := by decide +kernel
theorem dX6_judged_93 : decode cX6_judged 93 = .ok (.getfield 35, 3) := by decide +kernel
theorem dX6_judged_96 : decode cX6_judged 96 = .ok (.iload 6, 2) := by decide +kernel
theorem dX6_judged_98 : decode cX6_judged 98 = .ok (.iaload, 1) := by decide +kernel
theorem dX6_judged_99 : decode cX6_judged 99 = .ok (.aload_n 0, 1) := by decide +kernel
theorem dX6_judged_100 : decode cX6_judged 100 = .ok (.getfield 38, 3) := by decide +kernel
theorem dX6_judged_103 : decode cX6_judged 103 = .ok (.iload 6, 2) := by decide +kernel
theorem dX6_judged_105 : decode cX6_judged 105 = .ok (.iaload, 1) := by decide +kernel
theorem dX6_judged_106 : decode cX6_judged 106 = .ok (.invokestatic 122, 3) := by decide +kernel
theorem dX6_judged_109 : decode cX6_judged 109 = .ok (.aload_n 0, 1) := by decide +kernel
theorem dX6_judged_110 : decode cX6_judged 110 = .ok (.getfield 32, 3) := by decide +kernel
theorem dX6_judged_113 : decode cX6_judged 113 = .ok (.aload_n 0, 1) := by decide +kernel
theorem dX6_judged_114 : decode cX6_judged 114 = .ok (.getfield 32, 3) := by decide +kernel
theorem dX6_judged_117 : decode cX6_judged 117 = .ok (.imul, 1) := by decide +kernel
theorem dX6_judged_118 : decode cX6_judged 118 = .ok (.if_icmp .gt 13, 3) := by decide +kernel
theorem dX6_judged_121 : decode cX6_judged 121 = .ok (.aload_n 0, 1) := by decide +kernel
theorem dX6_judged_122 : decode cX6_judged 122 = .ok (.getfield 41, 3) := by decide +kernel
theorem dX6_judged_125 : decode cX6_judged 125 = .ok (.iload 6, 2) := by decide +kernel
theorem dX6_judged_127 : decode cX6_judged 127 = .ok (.iaload, 1) := by decide +kernel
theorem dX6_judged_128 : decode cX6_judged 128 = .ok (.goto 4, 3) := by decide +kernel
theorem dX6_judged_131 : decode cX6_judged 131 = .ok (.iconst 0, 1) := by decide +kernel
theorem dX6_judged_132 : decode cX6_judged 132 = .ok (.iadd, 1) := by decide +kernel
theorem dX6_judged_133 : decode cX6_judged 133 = .ok (.istore 5, 2) := by decide +kernel
theorem dX6_judged_135 : decode cX6_judged 135 = .ok (.iinc 6 1, 3) := by decide +kernel
theorem dX6_judged_138 : decode cX6_judged 138 = .ok (.goto (-59), 3) := by decide +kernel
theorem dX6_judged_141 : decode cX6_judged 141 = .ok (.iload 5, 2) := by decide +kernel
theorem dX6_judged_143 : decode cX6_judged 143 = .ok (.bipush 10, 2) := by decide +kernel
theorem dX6_judged_145 : decode cX6_judged 145 = .ok (.if_icmp .le 7, 3) := by decide +kernel
theorem dX6_judged_148 : decode cX6_judged 148 = .ok (.iconst 3, 1) := by decide +kernel
theorem dX6_judged_149 : decode cX6_judged 149 = .ok (.goto 4, 3) := by decide +kernel
theorem dX6_judged_152 : decode cX6_judged 152 = .ok (.iconst 0, 1) := by decide +kernel
theorem dX6_judged_153 : decode cX6_judged 153 = .ok (.ireturn, 1) := by decide +kernel
set_option maxRecDepth 20000 in
theorem ggX6_ask_X6_isPlace : GoodIn wsX6_ask wsX6_isPlace := goodIn_r _ [14, 15, 16, 13, 17] (by decide +kernel) (by decide +kernel)
set_option maxRecDepth 20000 in
theorem gX6_ask_X6_isPlace : GoodIn wsX6_ask (va_wsS RX6 109 yX6_isPlace wsX6_isPlace) := goodIn_app (goodIn_of _ (by decide +kernel)) ggX6_ask_X6_isPlace
set_option maxRecDepth 20000 in
theorem ggX6_ask_X6_in : GoodIn wsX6_ask wsX6_in := goodIn_r _ [17] (by decide +kernel) (by decide +kernel)
set_option maxRecDepth 20000 in
theorem gX6_ask_X6_in : GoodIn wsX6_ask (va_wsS RX6 92 yX6_in wsX6_in) := goodIn_app (goodIn_of _ (by decide +kernel)) ggX6_ask_X6_in
set_option maxRecDepth 20000 in
theorem ggX6_ask_X6_isDay : GoodIn wsX6_ask wsX6_isDay := goodIn_r _ [20, 15, 16, 13, 17] (by decide +kernel) (by decide +kernel)
set_option maxRecDepth 20000 in
theorem gX6_ask_X6_isDay : GoodIn wsX6_ask (va_wsS RX6 99 yX6_isDay wsX6_isDay) := goodIn_app (goodIn_of _ (by decide +kernel)) ggX6_ask_X6_isDay
set_option maxRecDepth 20000 in
theorem ggX6_ask_X6_judged : GoodIn wsX6_ask wsX6_judged := goodIn_r _ [24, 2, 4, 5, 25, 26, 27, 28, 29, 30, 31, 32, 33, 13, 34, 35, 36, 37, 38, 7, 1, 39, 40, 41, 42, 43, 44, 45, 46, 47, 48, 49, 50, 51, 52, 53, 54, 15, 16, 17, 55, 56, 57, 58, 59, 60, 61, 62, 63, 64, 65, 66, 67, 68, 69, 70, 71, 72, 73, 74, 75, 76, 77, 78, 79, 80, 81, 82, 83, 84, 85, 86, 87, 88, 89, 90, 91, 92, 93] (by decide +kernel) (by decide +kernel)
set_option maxRecDepth 20000 in
theorem gX6_ask_X6_judged : GoodIn wsX6_ask (wsV RX6 127 RX6 yX6_judged wsX6_judged) := goodIn_app (goodIn_of _ (by decide +kernel)) ggX6_ask_X6_judged
theorem dX6_ask_0 : decode cX6_ask 0 = .ok (.iload_n 1, 1) := by decide +kernel
theorem dX6_ask_1 : decode cX6_ask 1 = .ok (.iload_n 2, 1) := by decide +kernel
theorem dX6_ask_2 : decode cX6_ask 2 = .ok (.invokestatic 109, 3) := by decide +kernel
theorem dX6_ask_5 : decode cX6_ask 5 = .ok (.ifCond .eq 46, 3) := by decide +kernel
theorem dX6_ask_8 : decode cX6_ask 8 = .ok (.iload_n 3, 1) := by decide +kernel
theorem dX6_ask_9 : decode cX6_ask 9 = .ok (.iconst 0, 1) := by decide +kernel
theorem dX6_ask_10 : decode cX6_ask 10 = .ok (.iconst 2, 1) := by decide +kernel
theorem dX6_ask_11 : decode cX6_ask 11 = .ok (.invokestatic 92, 3) := by decide +kernel
theorem dX6_ask_14 : decode cX6_ask 14 = .ok (.ifCond .eq 37, 3) := by decide +kernel
theorem dX6_ask_17 : decode cX6_ask 17 = .ok (.iload 4, 2) := by decide +kernel
theorem dX6_ask_19 : decode cX6_ask 19 = .ok (.iconst 1, 1) := by decide +kernel
theorem dX6_ask_20 : decode cX6_ask 20 = .ok (.ldc 126, 2) := by decide +kernel
theorem dX6_ask_22 : decode cX6_ask 22 = .ok (.invokestatic 92, 3) := by decide +kernel
theorem dX6_ask_25 : decode cX6_ask 25 = .ok (.ifCond .eq 26, 3) := by decide +kernel
theorem dX6_ask_28 : decode cX6_ask 28 = .ok (.iload 5, 2) := by decide +kernel
theorem dX6_ask_30 : decode cX6_ask 30 = .ok (.invokestatic 99, 3) := by decide +kernel
theorem dX6_ask_33 : decode cX6_ask 33 = .ok (.ifCond .eq 18, 3) := by decide +kernel
theorem dX6_ask_36 : decode cX6_ask 36 = .ok (.iload 6, 2) := by decide +kernel
theorem dX6_ask_38 : decode cX6_ask 38 = .ok (.invokestatic 99, 3) := by decide +kernel
theorem dX6_ask_41 : decode cX6_ask 41 = .ok (.ifCond .eq 10, 3) := by decide +kernel
theorem dX6_ask_44 : decode cX6_ask 44 = .ok (.iload 5, 2) := by decide +kernel
theorem dX6_ask_46 : decode cX6_ask 46 = .ok (.iload 6, 2) := by decide +kernel
theorem dX6_ask_48 : decode cX6_ask 48 = .ok (.if_icmp .le 5, 3) := by decide +kernel
theorem dX6_ask_51 : decode cX6_ask 51 = .ok (.iconst (-1), 1) := by decide +kernel
theorem dX6_ask_52 : decode cX6_ask 52 = .ok (.ireturn, 1) := by decide +kernel
theorem dX6_ask_53 : decode cX6_ask 53 = .ok (.aload_n 0, 1) := by decide +kernel
theorem dX6_ask_54 : decode cX6_ask 54 = .ok (.getfield 116, 3) := by decide +kernel
theorem dX6_ask_57 : decode cX6_ask 57 = .ok (.bipush 30, 2) := by decide +kernel
theorem dX6_ask_59 : decode cX6_ask 59 = .ok (.if_icmp .ne 6, 3) := by decide +kernel
theorem dX6_ask_62 : decode cX6_ask 62 = .ok (.bipush (-3), 2) := by decide +kernel
theorem dX6_ask_64 : decode cX6_ask 64 = .ok (.ireturn, 1) := by decide +kernel
theorem dX6_ask_65 : decode cX6_ask 65 = .ok (.aload_n 0, 1) := by decide +kernel
theorem dX6_ask_66 : decode cX6_ask 66 = .ok (.iload_n 1, 1) := by decide +kernel
theorem dX6_ask_67 : decode cX6_ask 67 = .ok (.iload_n 2, 1) := by decide +kernel
theorem dX6_ask_68 : decode cX6_ask 68 = .ok (.iload 5, 2) := by decide +kernel
theorem dX6_ask_70 : decode cX6_ask 70 = .ok (.iload 6, 2) := by decide +kernel
theorem dX6_ask_72 : decode cX6_ask 72 = .ok (.invokevirtual 127, 3) := by decide +kernel
theorem dX6_ask_75 : decode cX6_ask 75 = .ok (.istore 7, 2) := by decide +kernel
theorem dX6_ask_77 : decode cX6_ask 77 = .ok (.iload 7, 2) := by decide +kernel
theorem dX6_ask_79 : decode cX6_ask 79 = .ok (.ifCond .le 19, 3) := by decide +kernel
theorem dX6_ask_82 : decode cX6_ask 82 = .ok (.aload_n 0, 1) := by decide +kernel
theorem dX6_ask_83 : decode cX6_ask 83 = .ok (.dup, 1) := by decide +kernel
theorem dX6_ask_84 : decode cX6_ask 84 = .ok (.getfield 130, 3) := by decide +kernel
theorem dX6_ask_87 : decode cX6_ask 87 = .ok (.iconst 1, 1) := by decide +kernel
theorem dX6_ask_88 : decode cX6_ask 88 = .ok (.iadd, 1) := by decide +kernel
theorem dX6_ask_89 : decode cX6_ask 89 = .ok (.putfield 130, 3) := by decide +kernel
theorem dX6_ask_92 : decode cX6_ask 92 = .ok (.bipush (-10), 2) := by decide +kernel
theorem dX6_ask_94 : decode cX6_ask 94 = .ok (.iload 7, 2) := by decide +kernel
theorem dX6_ask_96 : decode cX6_ask 96 = .ok (.isub, 1) := by decide +kernel
theorem dX6_ask_97 : decode cX6_ask 97 = .ok (.ireturn, 1) := by decide +kernel
theorem dX6_ask_98 : decode cX6_ask 98 = .ok (.aload_n 0, 1) := by decide +kernel
theorem dX6_ask_99 : decode cX6_ask 99 = .ok (.getfield 44, 3) := by decide +kernel
theorem dX6_ask_102 : decode cX6_ask 102 = .ok (.aload_n 0, 1) := by decide +kernel
theorem dX6_ask_103 : decode cX6_ask 103 = .ok (.getfield 116, 3) := by decide +kernel
theorem dX6_ask_106 : decode cX6_ask 106 = .ok (.iload_n 1, 1) := by decide +kernel
theorem dX6_ask_107 : decode cX6_ask 107 = .ok (.iastore, 1) := by decide +kernel
theorem dX6_ask_108 : decode cX6_ask 108 = .ok (.aload_n 0, 1) := by decide +kernel
theorem dX6_ask_109 : decode cX6_ask 109 = .ok (.getfield 47, 3) := by decide +kernel
theorem dX6_ask_112 : decode cX6_ask 112 = .ok (.aload_n 0, 1) := by decide +kernel
theorem dX6_ask_113 : decode cX6_ask 113 = .ok (.getfield 116, 3) := by decide +kernel
theorem dX6_ask_116 : decode cX6_ask 116 = .ok (.iload_n 2, 1) := by decide +kernel
theorem dX6_ask_117 : decode cX6_ask 117 = .ok (.iastore, 1) := by decide +kernel
theorem dX6_ask_118 : decode cX6_ask 118 = .ok (.aload_n 0, 1) := by decide +kernel
theorem dX6_ask_119 : decode cX6_ask 119 = .ok (.getfield 50, 3) := by decide +kernel
theorem dX6_ask_122 : decode cX6_ask 122 = .ok (.aload_n 0, 1) := by decide +kernel
theorem dX6_ask_123 : decode cX6_ask 123 = .ok (.getfield 116, 3) := by decide +kernel
theorem dX6_ask_126 : decode cX6_ask 126 = .ok (.iload_n 3, 1) := by decide +kernel
theorem dX6_ask_127 : decode cX6_ask 127 = .ok (.iastore, 1) := by decide +kernel
theorem dX6_ask_128 : decode cX6_ask 128 = .ok (.aload_n 0, 1) := by decide +kernel
theorem dX6_ask_129 : decode cX6_ask 129 = .ok (.getfield 53, 3) := by decide +kernel
theorem dX6_ask_132 : decode cX6_ask 132 = .ok (.aload_n 0, 1) := by decide +kernel
theorem dX6_ask_133 : decode cX6_ask 133 = .ok (.getfield 116, 3) := by decide +kernel
theorem dX6_ask_136 : decode cX6_ask 136 = .ok (.iload 6, 2) := by decide +kernel
theorem dX6_ask_138 : decode cX6_ask 138 = .ok (.iastore, 1) := by decide +kernel
theorem dX6_ask_139 : decode cX6_ask 139 = .ok (.aload_n 0, 1) := by decide +kernel
theorem dX6_ask_140 : decode cX6_ask 140 = .ok (.getfield 68, 3) := by decide +kernel
theorem dX6_ask_143 : decode cX6_ask 143 = .ok (.aload_n 0, 1) := by decide +kernel
theorem dX6_ask_144 : decode cX6_ask 144 = .ok (.getfield 116, 3) := by decide +kernel
theorem dX6_ask_147 : decode cX6_ask 147 = .ok (.iconst 1, 1) := by decide +kernel
theorem dX6_ask_148 : decode cX6_ask 148 = .ok (.iastore, 1) := by decide +kernel
theorem dX6_ask_149 : decode cX6_ask 149 = .ok (.aload_n 0, 1) := by decide +kernel
theorem dX6_ask_150 : decode cX6_ask 150 = .ok (.getfield 71, 3) := by decide +kernel
theorem dX6_ask_153 : decode cX6_ask 153 = .ok (.bipush 8, 2) := by decide +kernel
theorem dX6_ask_155 : decode cX6_ask 155 = .ok (.aload_n 0, 1) := by decide +kernel
theorem dX6_ask_156 : decode cX6_ask 156 = .ok (.getfield 116, 3) := by decide +kernel
theorem dX6_ask_159 : decode cX6_ask 159 = .ok (.imul, 1) := by decide +kernel
theorem dX6_ask_160 : decode cX6_ask 160 = .ok (.iload 6, 2) := by decide +kernel
theorem dX6_ask_162 : decode cX6_ask 162 = .ok (.iastore, 1) := by decide +kernel
theorem dX6_ask_163 : decode cX6_ask 163 = .ok (.aload_n 0, 1) := by decide +kernel
theorem dX6_ask_164 : decode cX6_ask 164 = .ok (.getfield 74, 3) := by decide +kernel
theorem dX6_ask_167 : decode cX6_ask 167 = .ok (.bipush 8, 2) := by decide +kernel
theorem dX6_ask_169 : decode cX6_ask 169 = .ok (.aload_n 0, 1) := by decide +kernel
theorem dX6_ask_170 : decode cX6_ask 170 = .ok (.getfield 116, 3) := by decide +kernel
theorem dX6_ask_173 : decode cX6_ask 173 = .ok (.imul, 1) := by decide +kernel
theorem dX6_ask_174 : decode cX6_ask 174 = .ok (.iload 4, 2) := by decide +kernel
theorem dX6_ask_176 : decode cX6_ask 176 = .ok (.iastore, 1) := by decide +kernel
theorem dX6_ask_177 : decode cX6_ask 177 = .ok (.aload_n 0, 1) := by decide +kernel
theorem dX6_ask_178 : decode cX6_ask 178 = .ok (.dup, 1) := by decide +kernel
theorem dX6_ask_179 : decode cX6_ask 179 = .ok (.getfield 116, 3) := by decide +kernel
theorem dX6_ask_182 : decode cX6_ask 182 = .ok (.iconst 1, 1) := by decide +kernel
theorem dX6_ask_183 : decode cX6_ask 183 = .ok (.iadd, 1) := by decide +kernel
theorem dX6_ask_184 : decode cX6_ask 184 = .ok (.putfield 116, 3) := by decide +kernel
theorem dX6_ask_187 : decode cX6_ask 187 = .ok (.aload_n 0, 1) := by decide +kernel
theorem dX6_ask_188 : decode cX6_ask 188 = .ok (.getfield 116, 3) := by decide +kernel
theorem dX6_ask_191 : decode cX6_ask 191 = .ok (.iconst 1, 1) := by decide +kernel
theorem dX6_ask_192 : decode cX6_ask 192 = .ok (.isub, 1) := by decide +kernel
theorem dX6_ask_193 : decode cX6_ask 193 = .ok (.ireturn, 1) := by decide +kernel
set_option maxRecDepth 20000 in
theorem ggX6_isHouse_X6_in : GoodIn wsX6_isHouse wsX6_in := goodIn_r _ [5] (by decide +kernel) (by decide +kernel)
set_option maxRecDepth 20000 in
theorem gX6_isHouse_X6_in : GoodIn wsX6_isHouse (va_wsS RX6 92 yX6_in wsX6_in) := goodIn_app (goodIn_of _ (by decide +kernel)) ggX6_isHouse_X6_in
theorem dX6_isHouse_0 : decode cX6_isHouse 0 = .ok (.iload_n 1, 1) := by decide +kernel
theorem dX6_isHouse_1 : decode cX6_isHouse 1 = .ok (.iconst 0, 1) := by decide +kernel
theorem dX6_isHouse_2 : decode cX6_isHouse 2 = .ok (.aload_n 0, 1) := by decide +kernel
theorem dX6_isHouse_3 : decode cX6_isHouse 3 = .ok (.getfield 116, 3) := by decide +kernel
theorem dX6_isHouse_6 : decode cX6_isHouse 6 = .ok (.iconst 1, 1) := by decide +kernel
theorem dX6_isHouse_7 : decode cX6_isHouse 7 = .ok (.isub, 1) := by decide +kernel
theorem dX6_isHouse_8 : decode cX6_isHouse 8 = .ok (.invokestatic 92, 3) := by decide +kernel
theorem dX6_isHouse_11 : decode cX6_isHouse 11 = .ok (.ireturn, 1) := by decide +kernel
theorem dX6_isTold_0 : decode cX6_isTold 0 = .ok (.iconst 0, 1) := by decide +kernel
theorem dX6_isTold_1 : decode cX6_isTold 1 = .ok (.istore_n 3, 1) := by decide +kernel
theorem dX6_isTold_2 : decode cX6_isTold 2 = .ok (.bipush 16, 2) := by decide +kernel
theorem dX6_isTold_4 : decode cX6_isTold 4 = .ok (.iload_n 1, 1) := by decide +kernel
theorem dX6_isTold_5 : decode cX6_isTold 5 = .ok (.imul, 1) := by decide +kernel
theorem dX6_isTold_6 : decode cX6_isTold 6 = .ok (.istore 4, 2) := by decide +kernel
theorem dX6_isTold_8 : decode cX6_isTold 8 = .ok (.iload 4, 2) := by decide +kernel
theorem dX6_isTold_10 : decode cX6_isTold 10 = .ok (.bipush 16, 2) := by decide +kernel
theorem dX6_isTold_12 : decode cX6_isTold 12 = .ok (.iload_n 1, 1) := by decide +kernel
theorem dX6_isTold_13 : decode cX6_isTold 13 = .ok (.imul, 1) := by decide +kernel
theorem dX6_isTold_14 : decode cX6_isTold 14 = .ok (.aload_n 0, 1) := by decide +kernel
theorem dX6_isTold_15 : decode cX6_isTold 15 = .ok (.getfield 56, 3) := by decide +kernel
theorem dX6_isTold_18 : decode cX6_isTold 18 = .ok (.iload_n 1, 1) := by decide +kernel
theorem dX6_isTold_19 : decode cX6_isTold 19 = .ok (.iaload, 1) := by decide +kernel
theorem dX6_isTold_20 : decode cX6_isTold 20 = .ok (.iadd, 1) := by decide +kernel
theorem dX6_isTold_21 : decode cX6_isTold 21 = .ok (.if_icmp .ge 40, 3) := by decide +kernel
theorem dX6_isTold_24 : decode cX6_isTold 24 = .ok (.iload_n 3, 1) := by decide +kernel
theorem dX6_isTold_25 : decode cX6_isTold 25 = .ok (.ifCond .ne 24, 3) := by decide +kernel
theorem dX6_isTold_28 : decode cX6_isTold 28 = .ok (.aload_n 0, 1) := by decide +kernel
theorem dX6_isTold_29 : decode cX6_isTold 29 = .ok (.getfield 62, 3) := by decide +kernel
theorem dX6_isTold_32 : decode cX6_isTold 32 = .ok (.iload 4, 2) := by decide +kernel
theorem dX6_isTold_34 : decode cX6_isTold 34 = .ok (.iaload, 1) := by decide +kernel
theorem dX6_isTold_35 : decode cX6_isTold 35 = .ok (.ifCond .ne 18, 3) := by decide +kernel
theorem dX6_isTold_38 : decode cX6_isTold 38 = .ok (.aload_n 0, 1) := by decide +kernel
theorem dX6_isTold_39 : decode cX6_isTold 39 = .ok (.getfield 65, 3) := by decide +kernel
theorem dX6_isTold_42 : decode cX6_isTold 42 = .ok (.iload 4, 2) := by decide +kernel
theorem dX6_isTold_44 : decode cX6_isTold 44 = .ok (.iaload, 1) := by decide +kernel
theorem dX6_isTold_45 : decode cX6_isTold 45 = .ok (.iload_n 2, 1) := by decide +kernel
theorem dX6_isTold_46 : decode cX6_isTold 46 = .ok (.if_icmp .ne 7, 3) := by decide +kernel
theorem dX6_isTold_49 : decode cX6_isTold 49 = .ok (.iconst 1, 1) := by decide +kernel
theorem dX6_isTold_50 : decode cX6_isTold 50 = .ok (.goto 4, 3) := by decide +kernel
theorem dX6_isTold_53 : decode cX6_isTold 53 = .ok (.iconst 0, 1) := by decide +kernel
theorem dX6_isTold_54 : decode cX6_isTold 54 = .ok (.istore_n 3, 1) := by decide +kernel
theorem dX6_isTold_55 : decode cX6_isTold 55 = .ok (.iinc 4 1, 3) := by decide +kernel
theorem dX6_isTold_58 : decode cX6_isTold 58 = .ok (.goto (-50), 3) := by decide +kernel
theorem dX6_isTold_61 : decode cX6_isTold 61 = .ok (.iload_n 3, 1) := by decide +kernel
theorem dX6_isTold_62 : decode cX6_isTold 62 = .ok (.ireturn, 1) := by decide +kernel
set_option maxRecDepth 20000 in
theorem ggX6_event_X6_in : GoodIn wsX6_event wsX6_in := goodIn_r _ [9] (by decide +kernel) (by decide +kernel)
set_option maxRecDepth 20000 in
theorem gX6_event_X6_in : GoodIn wsX6_event (va_wsS RX6 92 yX6_in wsX6_in) := goodIn_app (goodIn_of _ (by decide +kernel)) ggX6_event_X6_in
set_option maxRecDepth 20000 in
theorem ggX6_event_X6_isHouse : GoodIn wsX6_event wsX6_isHouse := goodIn_r _ [13, 14, 6, 7, 8, 9, 22, 23, 24, 25, 26, 27, 28, 29, 30, 31, 32, 33, 34, 35, 36, 37, 38, 39, 40, 41, 42, 43, 44, 45, 46, 47, 48, 49, 50, 51, 52, 53] (by decide +kernel) (by decide +kernel)
set_option maxRecDepth 20000 in
theorem gX6_event_X6_isHouse : GoodIn wsX6_event (wsV RX6 133 RX6 yX6_isHouse wsX6_isHouse) := goodIn_app (goodIn_of _ (by decide +kernel)) ggX6_event_X6_isHouse
set_option maxRecDepth 20000 in
theorem ggX6_event_X6_isDay : GoodIn wsX6_event wsX6_isDay := goodIn_r _ [17, 6, 7, 8, 9] (by decide +kernel) (by decide +kernel)
set_option maxRecDepth 20000 in
theorem gX6_event_X6_isDay : GoodIn wsX6_event (va_wsS RX6 99 yX6_isDay wsX6_isDay) := goodIn_app (goodIn_of _ (by decide +kernel)) ggX6_event_X6_isDay
set_option maxRecDepth 20000 in
theorem ggX6_event_X6_isTold : GoodIn wsX6_event wsX6_isTold := goodIn_r _ [21, 2, 4, 5, 22, 23, 24, 25, 26, 27, 28, 29, 30, 31, 32, 33, 34, 35, 36, 37, 38, 39, 40, 41, 42, 43, 44, 45, 46, 47, 48, 49, 50, 51, 52, 53] (by decide +kernel) (by decide +kernel)
set_option maxRecDepth 20000 in
theorem gX6_event_X6_isTold : GoodIn wsX6_event (wsV RX6 136 RX6 yX6_isTold wsX6_isTold) := goodIn_app (goodIn_of _ (by decide +kernel)) ggX6_event_X6_isTold
theorem dX6_event_0 : decode cX6_event 0 = .ok (.iload_n 3, 1) := by decide +kernel
theorem dX6_event_1 : decode cX6_event 1 = .ok (.ifCond .eq 8, 3) := by decide +kernel
theorem dX6_event_4 : decode cX6_event 4 = .ok (.iload_n 3, 1) := by decide +kernel
theorem dX6_event_5 : decode cX6_event 5 = .ok (.iconst 1, 1) := by decide +kernel
theorem dX6_event_6 : decode cX6_event 6 = .ok (.if_icmp .ne 14, 3) := by decide +kernel
theorem dX6_event_9 : decode cX6_event 9 = .ok (.iload 4, 2) := by decide +kernel
theorem dX6_event_11 : decode cX6_event 11 = .ok (.iconst 0, 1) := by decide +kernel
theorem dX6_event_12 : decode cX6_event 12 = .ok (.bipush 99, 2) := by decide +kernel
theorem dX6_event_14 : decode cX6_event 14 = .ok (.invokestatic 92, 3) := by decide +kernel
theorem dX6_event_17 : decode cX6_event 17 = .ok (.goto 27, 3) := by decide +kernel
theorem dX6_event_20 : decode cX6_event 20 = .ok (.iload_n 3, 1) := by decide +kernel
theorem dX6_event_21 : decode cX6_event 21 = .ok (.iconst 4, 1) := by decide +kernel
theorem dX6_event_22 : decode cX6_event 22 = .ok (.if_icmp .ne 15, 3) := by decide +kernel
theorem dX6_event_25 : decode cX6_event 25 = .ok (.iload 4, 2) := by decide +kernel
theorem dX6_event_27 : decode cX6_event 27 = .ok (.iconst 0, 1) := by decide +kernel
theorem dX6_event_28 : decode cX6_event 28 = .ok (.sipush 1439, 3) := by decide +kernel
theorem dX6_event_31 : decode cX6_event 31 = .ok (.invokestatic 92, 3) := by decide +kernel
theorem dX6_event_34 : decode cX6_event 34 = .ok (.goto 10, 3) := by decide +kernel
theorem dX6_event_37 : decode cX6_event 37 = .ok (.iload_n 3, 1) := by decide +kernel
theorem dX6_event_38 : decode cX6_event 38 = .ok (.iconst 2, 1) := by decide +kernel
theorem dX6_event_39 : decode cX6_event 39 = .ok (.bipush 6, 2) := by decide +kernel
theorem dX6_event_41 : decode cX6_event 41 = .ok (.invokestatic 92, 3) := by decide +kernel
theorem dX6_event_44 : decode cX6_event 44 = .ok (.istore 5, 2) := by decide +kernel
theorem dX6_event_46 : decode cX6_event 46 = .ok (.aload_n 0, 1) := by decide +kernel
theorem dX6_event_47 : decode cX6_event 47 = .ok (.iload_n 1, 1) := by decide +kernel
theorem dX6_event_48 : decode cX6_event 48 = .ok (.invokevirtual 133, 3) := by decide +kernel
theorem dX6_event_51 : decode cX6_event 51 = .ok (.ifCond .eq 15, 3) := by decide +kernel
theorem dX6_event_54 : decode cX6_event 54 = .ok (.iload_n 2, 1) := by decide +kernel
theorem dX6_event_55 : decode cX6_event 55 = .ok (.invokestatic 99, 3) := by decide +kernel
theorem dX6_event_58 : decode cX6_event 58 = .ok (.ifCond .eq 8, 3) := by decide +kernel
theorem dX6_event_61 : decode cX6_event 61 = .ok (.iload 5, 2) := by decide +kernel
theorem dX6_event_63 : decode cX6_event 63 = .ok (.ifCond .ne 5, 3) := by decide +kernel
theorem dX6_event_66 : decode cX6_event 66 = .ok (.iconst (-1), 1) := by decide +kernel
theorem dX6_event_67 : decode cX6_event 67 = .ok (.ireturn, 1) := by decide +kernel
theorem dX6_event_68 : decode cX6_event 68 = .ok (.iload_n 2, 1) := by decide +kernel
theorem dX6_event_69 : decode cX6_event 69 = .ok (.aload_n 0, 1) := by decide +kernel
theorem dX6_event_70 : decode cX6_event 70 = .ok (.getfield 53, 3) := by decide +kernel
theorem dX6_event_73 : decode cX6_event 73 = .ok (.iload_n 1, 1) := by decide +kernel
theorem dX6_event_74 : decode cX6_event 74 = .ok (.iaload, 1) := by decide +kernel
theorem dX6_event_75 : decode cX6_event 75 = .ok (.if_icmp .lt 32, 3) := by decide +kernel
theorem dX6_event_78 : decode cX6_event 78 = .ok (.iload_n 3, 1) := by decide +kernel
theorem dX6_event_79 : decode cX6_event 79 = .ok (.ifCond .ne 13, 3) := by decide +kernel
theorem dX6_event_82 : decode cX6_event 82 = .ok (.aload_n 0, 1) := by decide +kernel
theorem dX6_event_83 : decode cX6_event 83 = .ok (.iload_n 1, 1) := by decide +kernel
theorem dX6_event_84 : decode cX6_event 84 = .ok (.iload 4, 2) := by decide +kernel
theorem dX6_event_86 : decode cX6_event 86 = .ok (.invokevirtual 136, 3) := by decide +kernel
theorem dX6_event_89 : decode cX6_event 89 = .ok (.ifCond .ne 18, 3) := by decide +kernel
theorem dX6_event_92 : decode cX6_event 92 = .ok (.iload_n 3, 1) := by decide +kernel
theorem dX6_event_93 : decode cX6_event 93 = .ok (.iconst 1, 1) := by decide +kernel
theorem dX6_event_94 : decode cX6_event 94 = .ok (.if_icmp .ne 16, 3) := by decide +kernel
theorem dX6_event_97 : decode cX6_event 97 = .ok (.aload_n 0, 1) := by decide +kernel
theorem dX6_event_98 : decode cX6_event 98 = .ok (.iload_n 1, 1) := by decide +kernel
theorem dX6_event_99 : decode cX6_event 99 = .ok (.iload 4, 2) := by decide +kernel
theorem dX6_event_101 : decode cX6_event 101 = .ok (.invokevirtual 136, 3) := by decide +kernel
theorem dX6_event_104 : decode cX6_event 104 = .ok (.ifCond .ne 6, 3) := by decide +kernel
theorem dX6_event_107 : decode cX6_event 107 = .ok (.bipush (-2), 2) := by decide +kernel
theorem dX6_event_109 : decode cX6_event 109 = .ok (.ireturn, 1) := by decide +kernel
theorem dX6_event_110 : decode cX6_event 110 = .ok (.aload_n 0, 1) := by decide +kernel
theorem dX6_event_111 : decode cX6_event 111 = .ok (.getfield 56, 3) := by decide +kernel
theorem dX6_event_114 : decode cX6_event 114 = .ok (.iload_n 1, 1) := by decide +kernel
theorem dX6_event_115 : decode cX6_event 115 = .ok (.iaload, 1) := by decide +kernel
theorem dX6_event_116 : decode cX6_event 116 = .ok (.bipush 16, 2) := by decide +kernel
theorem dX6_event_118 : decode cX6_event 118 = .ok (.if_icmp .ne 6, 3) := by decide +kernel
theorem dX6_event_121 : decode cX6_event 121 = .ok (.bipush (-3), 2) := by decide +kernel
theorem dX6_event_123 : decode cX6_event 123 = .ok (.ireturn, 1) := by decide +kernel
theorem dX6_event_124 : decode cX6_event 124 = .ok (.bipush 16, 2) := by decide +kernel
theorem dX6_event_126 : decode cX6_event 126 = .ok (.iload_n 1, 1) := by decide +kernel
theorem dX6_event_127 : decode cX6_event 127 = .ok (.imul, 1) := by decide +kernel
theorem dX6_event_128 : decode cX6_event 128 = .ok (.aload_n 0, 1) := by decide +kernel
theorem dX6_event_129 : decode cX6_event 129 = .ok (.getfield 56, 3) := by decide +kernel
theorem dX6_event_132 : decode cX6_event 132 = .ok (.iload_n 1, 1) := by decide +kernel
theorem dX6_event_133 : decode cX6_event 133 = .ok (.iaload, 1) := by decide +kernel
theorem dX6_event_134 : decode cX6_event 134 = .ok (.iadd, 1) := by decide +kernel
theorem dX6_event_135 : decode cX6_event 135 = .ok (.istore 6, 2) := by decide +kernel
theorem dX6_event_137 : decode cX6_event 137 = .ok (.aload_n 0, 1) := by decide +kernel
theorem dX6_event_138 : decode cX6_event 138 = .ok (.getfield 59, 3) := by decide +kernel
theorem dX6_event_141 : decode cX6_event 141 = .ok (.iload 6, 2) := by decide +kernel
theorem dX6_event_143 : decode cX6_event 143 = .ok (.iload_n 2, 1) := by decide +kernel
theorem dX6_event_144 : decode cX6_event 144 = .ok (.iastore, 1) := by decide +kernel
theorem dX6_event_145 : decode cX6_event 145 = .ok (.aload_n 0, 1) := by decide +kernel
theorem dX6_event_146 : decode cX6_event 146 = .ok (.getfield 62, 3) := by decide +kernel
theorem dX6_event_149 : decode cX6_event 149 = .ok (.iload 6, 2) := by decide +kernel
theorem dX6_event_151 : decode cX6_event 151 = .ok (.iload_n 3, 1) := by decide +kernel
theorem dX6_event_152 : decode cX6_event 152 = .ok (.iastore, 1) := by decide +kernel
theorem dX6_event_153 : decode cX6_event 153 = .ok (.aload_n 0, 1) := by decide +kernel
