theorem dX0_init_0 : decode cX0_init 0 = .ok (.aload_n 0, 1) := by decide +kernel
theorem dX0_init_1 : decode cX0_init 1 = .ok (.invokespecial 3, 3) := by decide +kernel
theorem dX0_init_4 : decode cX0_init 4 = .ok (.aload_n 0, 1) := by decide +kernel
theorem dX0_init_5 : decode cX0_init 5 = .ok (.iload_n 1, 1) := by decide +kernel
theorem dX0_init_6 : decode cX0_init 6 = .ok (.putfield 9, 3) := by decide +kernel
theorem dX0_init_9 : decode cX0_init 9 = .ok (.aload_n 0, 1) := by decide +kernel
theorem dX0_init_10 : decode cX0_init 10 = .ok (.iload_n 2, 1) := by decide +kernel
theorem dX0_init_11 : decode cX0_init 11 = .ok (.putfield 15, 3) := by decide +kernel
theorem dX0_init_14 : decode cX0_init 14 = .ok (.aload_n 0, 1) := by decide +kernel
theorem dX0_init_15 : decode cX0_init 15 = .ok (.iload_n 3, 1) := by decide +kernel
theorem dX0_init_16 : decode cX0_init 16 = .ok (.putfield 18, 3) := by decide +kernel
theorem dX0_init_19 : decode cX0_init 19 = .ok (.aload_n 0, 1) := by decide +kernel
theorem dX0_init_20 : decode cX0_init 20 = .ok (.ldc 21, 2) := by decide +kernel
theorem dX0_init_22 : decode cX0_init 22 = .ok (.putfield 22, 3) := by decide +kernel
theorem dX0_init_25 : decode cX0_init 25 = .ok (.return_, 1) := by decide +kernel
set_option maxRecDepth 20000 in
theorem ggX1_init_Jx4a65c_init_da8c8 : GoodIn wsX1_init wsJx4a65c_init_da8c8 := goodIn_r _ [18, 19, 20, 21, 22, 23, 24, 25, 26, 27, 28, 29, 30, 2, 3, 97, 98, 99] (by decide +kernel) (by decide +kernel)
set_option maxRecDepth 20000 in
theorem gX1_init_Jx4a65c_init_da8c8 : GoodIn wsX1_init (wsJx4a65c_init_da8c8) := ggX1_init_Jx4a65c_init_da8c8
set_option maxRecDepth 20000 in
theorem ggX1_init_X4_init : GoodIn wsX1_init wsX4_init := goodIn_r _ [33, 34, 2, 3, 35, 36, 100, 101] (by decide +kernel) (by decide +kernel)
set_option maxRecDepth 20000 in
theorem gX1_init_X4_init : GoodIn wsX1_init (wsX4_init) := ggX1_init_X4_init
set_option maxRecDepth 20000 in
theorem ggX1_init_Jx4a65c_add_9ea2d : GoodIn wsX1_init wsJx4a65c_add_9ea2d := goodIn_r _ [40, 41, 42, 20, 43, 44, 45, 46, 10, 47, 48, 49, 50, 51, 52, 53, 54, 55, 19, 56, 57, 58, 59, 60, 61, 62, 63, 64, 65, 66, 67, 68, 69, 70, 71, 72, 73, 74, 75, 76, 77, 78, 79, 80, 81, 82, 83, 84, 85, 86, 87, 88, 89, 97, 98, 99] (by decide +kernel) (by decide +kernel)
set_option maxRecDepth 20000 in
theorem gX1_init_Jx4a65c_add_9ea2d : GoodIn wsX1_init (wsV RX1 39 RJx4a65c yJx4a65c_add_9ea2d wsJx4a65c_add_9ea2d) := goodIn_app (goodIn_of _ (by decide +kernel)) ggX1_init_Jx4a65c_add_9ea2d
theorem dX1_init_0 : decode cX1_init 0 = .ok (.aload_n 0, 1) := by decide +kernel
theorem dX1_init_1 : decode cX1_init 1 = .ok (.invokespecial 3, 3) := by decide +kernel
theorem dX1_init_4 : decode cX1_init 4 = .ok (.aload_n 0, 1) := by decide +kernel
theorem dX1_init_5 : decode cX1_init 5 = .ok (.iload_n 1, 1) := by decide +kernel
theorem dX1_init_6 : decode cX1_init 6 = .ok (.putfield 9, 3) := by decide +kernel
theorem dX1_init_9 : decode cX1_init 9 = .ok (.aload_n 0, 1) := by decide +kernel
theorem dX1_init_10 : decode cX1_init 10 = .ok (.iload_n 2, 1) := by decide +kernel
theorem dX1_init_11 : decode cX1_init 11 = .ok (.putfield 15, 3) := by decide +kernel
theorem dX1_init_14 : decode cX1_init 14 = .ok (.aload_n 0, 1) := by decide +kernel
theorem dX1_init_15 : decode cX1_init 15 = .ok (.iload_n 3, 1) := by decide +kernel
theorem dX1_init_16 : decode cX1_init 16 = .ok (.putfield 18, 3) := by decide +kernel
theorem dX1_init_19 : decode cX1_init 19 = .ok (.aload_n 0, 1) := by decide +kernel
theorem dX1_init_20 : decode cX1_init 20 = .ok (.iload 4, 2) := by decide +kernel
theorem dX1_init_22 : decode cX1_init 22 = .ok (.putfield 21, 3) := by decide +kernel
theorem dX1_init_25 : decode cX1_init 25 = .ok (.aload_n 0, 1) := by decide +kernel
theorem dX1_init_26 : decode cX1_init 26 = .ok (.new 24, 3) := by decide +kernel
theorem dX1_init_29 : decode cX1_init 29 = .ok (.dup, 1) := by decide +kernel
theorem dX1_init_30 : decode cX1_init 30 = .ok (.invokespecial 26, 3) := by decide +kernel
theorem dX1_init_33 : decode cX1_init 33 = .ok (.putfield 27, 3) := by decide +kernel
theorem dX1_init_36 : decode cX1_init 36 = .ok (.aload_n 0, 1) := by decide +kernel
theorem dX1_init_37 : decode cX1_init 37 = .ok (.new 24, 3) := by decide +kernel
theorem dX1_init_40 : decode cX1_init 40 = .ok (.dup, 1) := by decide +kernel
theorem dX1_init_41 : decode cX1_init 41 = .ok (.invokespecial 26, 3) := by decide +kernel
theorem dX1_init_44 : decode cX1_init 44 = .ok (.putfield 31, 3) := by decide +kernel
theorem dX1_init_47 : decode cX1_init 47 = .ok (.aload_n 0, 1) := by decide +kernel
theorem dX1_init_48 : decode cX1_init 48 = .ok (.getfield 31, 3) := by decide +kernel
theorem dX1_init_51 : decode cX1_init 51 = .ok (.new 34, 3) := by decide +kernel
theorem dX1_init_54 : decode cX1_init 54 = .ok (.dup, 1) := by decide +kernel
theorem dX1_init_55 : decode cX1_init 55 = .ok (.iload 4, 2) := by decide +kernel
theorem dX1_init_57 : decode cX1_init 57 = .ok (.iload 5, 2) := by decide +kernel
theorem dX1_init_59 : decode cX1_init 59 = .ok (.invokespecial 36, 3) := by decide +kernel
theorem dX1_init_62 : decode cX1_init 62 = .ok (.invokevirtual 39, 3) := by decide +kernel
theorem dX1_init_65 : decode cX1_init 65 = .ok (.pop, 1) := by decide +kernel
theorem dX1_init_66 : decode cX1_init 66 = .ok (.return_, 1) := by decide +kernel
set_option maxRecDepth 20000 in
theorem ggX1_mayBeTold_X1_offenceNumbered : GoodIn wsX1_mayBeTold wsX1_offenceNumbered := goodIn_r _ [5, 6, 7, 8, 9, 10, 11, 12, 13, 14, 15, 16, 17, 18, 19, 20, 21, 22, 23, 24, 25, 26, 27, 28, 29, 30, 31, 32, 33, 34, 35, 36, 37, 38, 39, 40, 41, 42, 43, 44, 45, 46] (by decide +kernel) (by decide +kernel)
set_option maxRecDepth 20000 in
theorem gX1_mayBeTold_X1_offenceNumbered : GoodIn wsX1_mayBeTold (wsV RX1 43 RX1 yX1_offenceNumbered wsX1_offenceNumbered) := goodIn_app (goodIn_of _ (by decide +kernel)) ggX1_mayBeTold_X1_offenceNumbered
theorem dX1_mayBeTold_0 : decode cX1_mayBeTold 0 = .ok (.iload_n 1, 1) := by decide +kernel
theorem dX1_mayBeTold_1 : decode cX1_mayBeTold 1 = .ok (.ifCond .ne 17, 3) := by decide +kernel
theorem dX1_mayBeTold_4 : decode cX1_mayBeTold 4 = .ok (.aload_n 0, 1) := by decide +kernel
theorem dX1_mayBeTold_5 : decode cX1_mayBeTold 5 = .ok (.iload_n 2, 1) := by decide +kernel
theorem dX1_mayBeTold_6 : decode cX1_mayBeTold 6 = .ok (.invokevirtual 43, 3) := by decide +kernel
theorem dX1_mayBeTold_9 : decode cX1_mayBeTold 9 = .ok (.ifnonnull 7, 3) := by decide +kernel
theorem dX1_mayBeTold_12 : decode cX1_mayBeTold 12 = .ok (.iconst 1, 1) := by decide +kernel
theorem dX1_mayBeTold_13 : decode cX1_mayBeTold 13 = .ok (.goto 4, 3) := by decide +kernel
theorem dX1_mayBeTold_16 : decode cX1_mayBeTold 16 = .ok (.iconst 0, 1) := by decide +kernel
theorem dX1_mayBeTold_17 : decode cX1_mayBeTold 17 = .ok (.ireturn, 1) := by decide +kernel
theorem dX1_mayBeTold_18 : decode cX1_mayBeTold 18 = .ok (.iload_n 1, 1) := by decide +kernel
theorem dX1_mayBeTold_19 : decode cX1_mayBeTold 19 = .ok (.iconst 1, 1) := by decide +kernel
theorem dX1_mayBeTold_20 : decode cX1_mayBeTold 20 = .ok (.if_icmp .ne 11, 3) := by decide +kernel
theorem dX1_mayBeTold_23 : decode cX1_mayBeTold 23 = .ok (.aload_n 0, 1) := by decide +kernel
theorem dX1_mayBeTold_24 : decode cX1_mayBeTold 24 = .ok (.iload_n 2, 1) := by decide +kernel
theorem dX1_mayBeTold_25 : decode cX1_mayBeTold 25 = .ok (.invokevirtual 43, 3) := by decide +kernel
theorem dX1_mayBeTold_28 : decode cX1_mayBeTold 28 = .ok (.ifnull 7, 3) := by decide +kernel
theorem dX1_mayBeTold_31 : decode cX1_mayBeTold 31 = .ok (.iconst 1, 1) := by decide +kernel
theorem dX1_mayBeTold_32 : decode cX1_mayBeTold 32 = .ok (.goto 4, 3) := by decide +kernel
theorem dX1_mayBeTold_35 : decode cX1_mayBeTold 35 = .ok (.iconst 0, 1) := by decide +kernel
theorem dX1_mayBeTold_36 : decode cX1_mayBeTold 36 = .ok (.ireturn, 1) := by decide +kernel
set_option maxRecDepth 20000 in
theorem ggX1_tell_X0_init : GoodIn wsX1_tell wsX0_init := goodIn_r _ [12, 13, 14, 15, 16, 17, 18, 19, 20, 109, 110, 111, 112] (by decide +kernel) (by decide +kernel)
set_option maxRecDepth 20000 in
theorem gX1_tell_X0_init : GoodIn wsX1_tell (wsX0_init) := ggX1_tell_X0_init
set_option maxRecDepth 20000 in
theorem ggX1_tell_Jx4a65c_add_9ea2d : GoodIn wsX1_tell wsJx4a65c_add_9ea2d := goodIn_r _ [25, 26, 27, 28, 29, 30, 31, 32, 24, 33, 34, 35, 36, 37, 38, 39, 40, 41, 42, 43, 44, 8, 45, 46, 47, 48, 49, 50, 51, 52, 53, 54, 55, 56, 57, 58, 59, 60, 61, 62, 63, 64, 65, 66, 67, 68, 69, 7, 9, 70, 71, 72, 73, 113, 114, 115] (by decide +kernel) (by decide +kernel)
set_option maxRecDepth 20000 in
theorem gX1_tell_Jx4a65c_add_9ea2d : GoodIn wsX1_tell (wsV RX1 39 RJx4a65c yJx4a65c_add_9ea2d wsJx4a65c_add_9ea2d) := goodIn_app (goodIn_of _ (by decide +kernel)) ggX1_tell_Jx4a65c_add_9ea2d
set_option maxRecDepth 20000 in
theorem ggX1_tell_X1_offenceNumbered : GoodIn wsX1_tell wsX1_offenceNumbered := goodIn_r _ [78, 1, 79, 80, 81, 82, 83, 84, 24, 85, 29, 86, 87, 88, 89, 90, 91, 92, 93, 94, 95, 96, 97, 98, 99, 100, 101, 28, 102, 103, 104, 105, 106, 107, 108, 109, 110, 111, 112, 113, 114, 115] (by decide +kernel) (by decide +kernel)
set_option maxRecDepth 20000 in
theorem gX1_tell_X1_offenceNumbered : GoodIn wsX1_tell (wsV RX1 43 RX1 yX1_offenceNumbered wsX1_offenceNumbered) := goodIn_app (goodIn_of _ (by decide +kernel)) ggX1_tell_X1_offenceNumbered
theorem dX1_tell_0 : decode cX1_tell 0 = .ok (.aload_n 0, 1) := by decide +kernel
theorem dX1_tell_1 : decode cX1_tell 1 = .ok (.getfield 27, 3) := by decide +kernel
theorem dX1_tell_4 : decode cX1_tell 4 = .ok (.new 47, 3) := by decide +kernel
theorem dX1_tell_7 : decode cX1_tell 7 = .ok (.dup, 1) := by decide +kernel
theorem dX1_tell_8 : decode cX1_tell 8 = .ok (.iload_n 1, 1) := by decide +kernel
theorem dX1_tell_9 : decode cX1_tell 9 = .ok (.iload_n 2, 1) := by decide +kernel
theorem dX1_tell_10 : decode cX1_tell 10 = .ok (.iload_n 3, 1) := by decide +kernel
theorem dX1_tell_11 : decode cX1_tell 11 = .ok (.invokespecial 49, 3) := by decide +kernel
theorem dX1_tell_14 : decode cX1_tell 14 = .ok (.invokevirtual 39, 3) := by decide +kernel
theorem dX1_tell_17 : decode cX1_tell 17 = .ok (.pop, 1) := by decide +kernel
theorem dX1_tell_18 : decode cX1_tell 18 = .ok (.iload_n 2, 1) := by decide +kernel
theorem dX1_tell_19 : decode cX1_tell 19 = .ok (.iconst 1, 1) := by decide +kernel
theorem dX1_tell_20 : decode cX1_tell 20 = .ok (.if_icmp .ne 11, 3) := by decide +kernel
theorem dX1_tell_23 : decode cX1_tell 23 = .ok (.aload_n 0, 1) := by decide +kernel
theorem dX1_tell_24 : decode cX1_tell 24 = .ok (.iload_n 3, 1) := by decide +kernel
theorem dX1_tell_25 : decode cX1_tell 25 = .ok (.invokevirtual 43, 3) := by decide +kernel
theorem dX1_tell_28 : decode cX1_tell 28 = .ok (.goto 4, 3) := by decide +kernel
theorem dX1_tell_31 : decode cX1_tell 31 = .ok (.aconst_null, 1) := by decide +kernel
theorem dX1_tell_32 : decode cX1_tell 32 = .ok (.astore 4, 2) := by decide +kernel
theorem dX1_tell_34 : decode cX1_tell 34 = .ok (.aload 4, 2) := by decide +kernel
theorem dX1_tell_36 : decode cX1_tell 36 = .ok (.ifnull 17, 3) := by decide +kernel
theorem dX1_tell_39 : decode cX1_tell 39 = .ok (.aload 4, 2) := by decide +kernel
theorem dX1_tell_41 : decode cX1_tell 41 = .ok (.aload 4, 2) := by decide +kernel
theorem dX1_tell_43 : decode cX1_tell 43 = .ok (.getfield 52, 3) := by decide +kernel
theorem dX1_tell_46 : decode cX1_tell 46 = .ok (.iload_n 1, 1) := by decide +kernel
theorem dX1_tell_47 : decode cX1_tell 47 = .ok (.invokestatic 55, 3) := by decide +kernel
theorem dX1_tell_50 : decode cX1_tell 50 = .ok (.putfield 52, 3) := by decide +kernel
theorem dX1_tell_53 : decode cX1_tell 53 = .ok (.return_, 1) := by decide +kernel
set_option maxRecDepth 20000 in
theorem ggX1_offenceNumbered_Jx4a65c_size_8abf5 : GoodIn wsX1_offenceNumbered wsJx4a65c_size_8abf5 := goodIn_r _ [9, 10, 39, 40, 41] (by decide +kernel) (by decide +kernel)
set_option maxRecDepth 20000 in
theorem gX1_offenceNumbered_Jx4a65c_size_8abf5 : GoodIn wsX1_offenceNumbered (wsV RX1 61 RJx4a65c yJx4a65c_size_8abf5 wsJx4a65c_size_8abf5) := goodIn_app (goodIn_of _ (by decide +kernel)) ggX1_offenceNumbered_Jx4a65c_size_8abf5
set_option maxRecDepth 20000 in
theorem ggX1_offenceNumbered_Jx4a65c_get_915e3 : GoodIn wsX1_offenceNumbered wsJx4a65c_get_915e3 := goodIn_r _ [14, 10, 15, 16, 17, 18, 19, 20, 21, 22, 23, 24, 25, 8, 26, 27, 39, 40, 41] (by decide +kernel) (by decide +kernel)
set_option maxRecDepth 20000 in
theorem gX1_offenceNumbered_Jx4a65c_get_915e3 : GoodIn wsX1_offenceNumbered (wsV RX1 65 RJx4a65c yJx4a65c_get_915e3 wsJx4a65c_get_915e3) := goodIn_app (goodIn_of _ (by decide +kernel)) ggX1_offenceNumbered_Jx4a65c_get_915e3
theorem dX1_offenceNumbered_0 : decode cX1_offenceNumbered 0 = .ok (.iconst 0, 1) := by decide +kernel
theorem dX1_offenceNumbered_1 : decode cX1_offenceNumbered 1 = .ok (.istore_n 2, 1) := by decide +kernel
theorem dX1_offenceNumbered_2 : decode cX1_offenceNumbered 2 = .ok (.iload_n 2, 1) := by decide +kernel
theorem dX1_offenceNumbered_3 : decode cX1_offenceNumbered 3 = .ok (.aload_n 0, 1) := by decide +kernel
theorem dX1_offenceNumbered_4 : decode cX1_offenceNumbered 4 = .ok (.getfield 27, 3) := by decide +kernel
theorem dX1_offenceNumbered_7 : decode cX1_offenceNumbered 7 = .ok (.invokevirtual 61, 3) := by decide +kernel
theorem dX1_offenceNumbered_10 : decode cX1_offenceNumbered 10 = .ok (.if_icmp .ge 38, 3) := by decide +kernel
theorem dX1_offenceNumbered_13 : decode cX1_offenceNumbered 13 = .ok (.aload_n 0, 1) := by decide +kernel
theorem dX1_offenceNumbered_14 : decode cX1_offenceNumbered 14 = .ok (.getfield 27, 3) := by decide +kernel
theorem dX1_offenceNumbered_17 : decode cX1_offenceNumbered 17 = .ok (.iload_n 2, 1) := by decide +kernel
theorem dX1_offenceNumbered_18 : decode cX1_offenceNumbered 18 = .ok (.invokevirtual 65, 3) := by decide +kernel
theorem dX1_offenceNumbered_21 : decode cX1_offenceNumbered 21 = .ok (.checkcast 47, 3) := by decide +kernel
theorem dX1_offenceNumbered_24 : decode cX1_offenceNumbered 24 = .ok (.astore_n 3, 1) := by decide +kernel
theorem dX1_offenceNumbered_25 : decode cX1_offenceNumbered 25 = .ok (.aload_n 3, 1) := by decide +kernel
theorem dX1_offenceNumbered_26 : decode cX1_offenceNumbered 26 = .ok (.getfield 69, 3) := by decide +kernel
theorem dX1_offenceNumbered_29 : decode cX1_offenceNumbered 29 = .ok (.ifCond .ne 13, 3) := by decide +kernel
theorem dX1_offenceNumbered_32 : decode cX1_offenceNumbered 32 = .ok (.aload_n 3, 1) := by decide +kernel
theorem dX1_offenceNumbered_33 : decode cX1_offenceNumbered 33 = .ok (.getfield 70, 3) := by decide +kernel
theorem dX1_offenceNumbered_36 : decode cX1_offenceNumbered 36 = .ok (.iload_n 1, 1) := by decide +kernel
theorem dX1_offenceNumbered_37 : decode cX1_offenceNumbered 37 = .ok (.if_icmp .ne 5, 3) := by decide +kernel
theorem dX1_offenceNumbered_40 : decode cX1_offenceNumbered 40 = .ok (.aload_n 3, 1) := by decide +kernel
theorem dX1_offenceNumbered_41 : decode cX1_offenceNumbered 41 = .ok (.areturn, 1) := by decide +kernel
theorem dX1_offenceNumbered_42 : decode cX1_offenceNumbered 42 = .ok (.iinc 2 1, 3) := by decide +kernel
theorem dX1_offenceNumbered_45 : decode cX1_offenceNumbered 45 = .ok (.goto (-43), 3) := by decide +kernel
theorem dX1_offenceNumbered_48 : decode cX1_offenceNumbered 48 = .ok (.aconst_null, 1) := by decide +kernel
theorem dX1_offenceNumbered_49 : decode cX1_offenceNumbered 49 = .ok (.areturn, 1) := by decide +kernel
set_option maxRecDepth 20000 in
theorem ggX1_hasLicence_X1_stateOn : GoodIn wsX1_hasLicence wsX1_stateOn := goodIn_r _ [5, 6, 7, 8, 9, 10, 11, 12, 13, 14, 4, 15, 16, 17, 18, 19, 20, 21, 22, 23, 24, 25, 26, 27, 28, 29, 30, 31, 32, 33, 34, 35, 36, 37, 38, 39, 40, 41, 42, 43, 44, 45, 46, 47, 48, 49, 50, 51, 52, 53, 54, 55, 56, 57, 58, 59, 60, 61, 62, 63, 64, 65, 66, 67, 68, 69, 70, 71, 72, 73, 74, 75, 76] (by decide +kernel) (by decide +kernel)
set_option maxRecDepth 20000 in
theorem gX1_hasLicence_X1_stateOn : GoodIn wsX1_hasLicence (wsV RX1 73 RX1 yX1_stateOn wsX1_stateOn) := goodIn_app (goodIn_of _ (by decide +kernel)) ggX1_hasLicence_X1_stateOn
theorem dX1_hasLicence_0 : decode cX1_hasLicence 0 = .ok (.aload_n 0, 1) := by decide +kernel
theorem dX1_hasLicence_1 : decode cX1_hasLicence 1 = .ok (.iload_n 1, 1) := by decide +kernel
theorem dX1_hasLicence_2 : decode cX1_hasLicence 2 = .ok (.invokevirtual 73, 3) := by decide +kernel
theorem dX1_hasLicence_5 : decode cX1_hasLicence 5 = .ok (.iconst 1, 1) := by decide +kernel
theorem dX1_hasLicence_6 : decode cX1_hasLicence 6 = .ok (.if_icmp .ne 7, 3) := by decide +kernel
theorem dX1_hasLicence_9 : decode cX1_hasLicence 9 = .ok (.iconst 1, 1) := by decide +kernel
theorem dX1_hasLicence_10 : decode cX1_hasLicence 10 = .ok (.goto 4, 3) := by decide +kernel
theorem dX1_hasLicence_13 : decode cX1_hasLicence 13 = .ok (.iconst 0, 1) := by decide +kernel
theorem dX1_hasLicence_14 : decode cX1_hasLicence 14 = .ok (.ireturn, 1) := by decide +kernel
set_option maxRecDepth 20000 in
theorem ggX1_stateOn_X1_endedFrom : GoodIn wsX1_stateOn wsX1_endedFrom := goodIn_r _ [11, 6, 12, 13, 14, 15, 16, 17, 18, 19, 20, 21, 22, 23, 24, 25, 26, 27, 28, 29, 30, 31, 32, 33, 34, 35, 36, 37, 38, 39, 40, 41, 10, 42, 43, 59, 60, 61, 62, 63, 64, 65, 66, 67, 68, 69, 70, 71, 72] (by decide +kernel) (by decide +kernel)
set_option maxRecDepth 20000 in
theorem gX1_stateOn_X1_endedFrom : GoodIn wsX1_stateOn (wsV RX1 77 RX1 yX1_endedFrom wsX1_endedFrom) := goodIn_app (goodIn_of _ (by decide +kernel)) ggX1_stateOn_X1_endedFrom
set_option maxRecDepth 20000 in
theorem ggX1_stateOn_X1_lapsedFrom : GoodIn wsX1_stateOn wsX1_lapsedFrom := goodIn_r _ [47, 6, 12, 13, 15, 14, 16, 17, 18, 19, 20, 21, 22, 23, 24, 25, 26, 27, 28, 29, 30, 31, 32, 33, 34, 35, 36, 37, 38, 48, 49, 50, 10, 51, 52, 53, 54, 59, 60, 61, 62, 63, 64, 65, 66, 67, 68, 69, 70, 71, 72] (by decide +kernel) (by decide +kernel)
set_option maxRecDepth 20000 in
theorem gX1_stateOn_X1_lapsedFrom : GoodIn wsX1_stateOn (wsV RX1 80 RX1 yX1_lapsedFrom wsX1_lapsedFrom) := goodIn_app (goodIn_of _ (by decide +kernel)) ggX1_stateOn_X1_lapsedFrom
set_option maxRecDepth 20000 in
theorem ggX1_stateOn_X1_surplusFrom : GoodIn wsX1_stateOn wsX1_surplusFrom := goodIn_r _ [58, 6, 12, 13, 14, 15, 2, 3, 4, 5, 16, 17, 18, 19, 20, 21, 22, 23, 24, 25, 26, 27, 28, 29, 30, 31, 32, 33, 34, 35, 36, 37, 38, 59, 60, 61, 62, 63, 64, 65, 66, 67, 68, 69, 70, 71, 72] (by decide +kernel) (by decide +kernel)
set_option maxRecDepth 20000 in
theorem gX1_stateOn_X1_surplusFrom : GoodIn wsX1_stateOn (wsV RX1 83 RX1 yX1_surplusFrom wsX1_surplusFrom) := goodIn_app (goodIn_of _ (by decide +kernel)) ggX1_stateOn_X1_surplusFrom
theorem dX1_stateOn_0 : decode cX1_stateOn 0 = .ok (.iload_n 1, 1) := by decide +kernel
theorem dX1_stateOn_1 : decode cX1_stateOn 1 = .ok (.aload_n 0, 1) := by decide +kernel
theorem dX1_stateOn_2 : decode cX1_stateOn 2 = .ok (.getfield 21, 3) := by decide +kernel
theorem dX1_stateOn_5 : decode cX1_stateOn 5 = .ok (.if_icmp .ge 5, 3) := by decide +kernel
theorem dX1_stateOn_8 : decode cX1_stateOn 8 = .ok (.iconst 0, 1) := by decide +kernel
theorem dX1_stateOn_9 : decode cX1_stateOn 9 = .ok (.ireturn, 1) := by decide +kernel
theorem dX1_stateOn_10 : decode cX1_stateOn 10 = .ok (.aload_n 0, 1) := by decide +kernel
theorem dX1_stateOn_11 : decode cX1_stateOn 11 = .ok (.iload_n 1, 1) := by decide +kernel
theorem dX1_stateOn_12 : decode cX1_stateOn 12 = .ok (.invokevirtual 77, 3) := by decide +kernel
theorem dX1_stateOn_15 : decode cX1_stateOn 15 = .ok (.istore_n 2, 1) := by decide +kernel
theorem dX1_stateOn_16 : decode cX1_stateOn 16 = .ok (.aload_n 0, 1) := by decide +kernel
theorem dX1_stateOn_17 : decode cX1_stateOn 17 = .ok (.iload_n 1, 1) := by decide +kernel
theorem dX1_stateOn_18 : decode cX1_stateOn 18 = .ok (.invokevirtual 80, 3) := by decide +kernel
theorem dX1_stateOn_21 : decode cX1_stateOn 21 = .ok (.istore_n 3, 1) := by decide +kernel
theorem dX1_stateOn_22 : decode cX1_stateOn 22 = .ok (.aload_n 0, 1) := by decide +kernel
theorem dX1_stateOn_23 : decode cX1_stateOn 23 = .ok (.iload_n 1, 1) := by decide +kernel
theorem dX1_stateOn_24 : decode cX1_stateOn 24 = .ok (.invokevirtual 83, 3) := by decide +kernel
theorem dX1_stateOn_27 : decode cX1_stateOn 27 = .ok (.istore 4, 2) := by decide +kernel
theorem dX1_stateOn_29 : decode cX1_stateOn 29 = .ok (.iload_n 2, 1) := by decide +kernel
theorem dX1_stateOn_30 : decode cX1_stateOn 30 = .ok (.iload_n 3, 1) := by decide +kernel
theorem dX1_stateOn_31 : decode cX1_stateOn 31 = .ok (.iload 4, 2) := by decide +kernel
theorem dX1_stateOn_33 : decode cX1_stateOn 33 = .ok (.invokestatic 55, 3) := by decide +kernel
theorem dX1_stateOn_36 : decode cX1_stateOn 36 = .ok (.invokestatic 55, 3) := by decide +kernel
theorem dX1_stateOn_39 : decode cX1_stateOn 39 = .ok (.istore 5, 2) := by decide +kernel
theorem dX1_stateOn_41 : decode cX1_stateOn 41 = .ok (.iload 5, 2) := by decide +kernel
theorem dX1_stateOn_43 : decode cX1_stateOn 43 = .ok (.ldc 86, 2) := by decide +kernel
theorem dX1_stateOn_45 : decode cX1_stateOn 45 = .ok (.if_icmp .ne 5, 3) := by decide +kernel
theorem dX1_stateOn_48 : decode cX1_stateOn 48 = .ok (.iconst 1, 1) := by decide +kernel
theorem dX1_stateOn_49 : decode cX1_stateOn 49 = .ok (.ireturn, 1) := by decide +kernel
theorem dX1_stateOn_50 : decode cX1_stateOn 50 = .ok (.iload_n 2, 1) := by decide +kernel
theorem dX1_stateOn_51 : decode cX1_stateOn 51 = .ok (.iload 5, 2) := by decide +kernel
theorem dX1_stateOn_53 : decode cX1_stateOn 53 = .ok (.if_icmp .ne 5, 3) := by decide +kernel
theorem dX1_stateOn_56 : decode cX1_stateOn 56 = .ok (.iconst 2, 1) := by decide +kernel
theorem dX1_stateOn_57 : decode cX1_stateOn 57 = .ok (.ireturn, 1) := by decide +kernel
theorem dX1_stateOn_58 : decode cX1_stateOn 58 = .ok (.iload_n 3, 1) := by decide +kernel
theorem dX1_stateOn_59 : decode cX1_stateOn 59 = .ok (.iload 5, 2) := by decide +kernel
theorem dX1_stateOn_61 : decode cX1_stateOn 61 = .ok (.if_icmp .ne 7, 3) := by decide +kernel
theorem dX1_stateOn_64 : decode cX1_stateOn 64 = .ok (.iconst 3, 1) := by decide +kernel
theorem dX1_stateOn_65 : decode cX1_stateOn 65 = .ok (.goto 4, 3) := by decide +kernel
theorem dX1_stateOn_68 : decode cX1_stateOn 68 = .ok (.iconst 4, 1) := by decide +kernel
theorem dX1_stateOn_69 : decode cX1_stateOn 69 = .ok (.ireturn, 1) := by decide +kernel
set_option maxRecDepth 20000 in
theorem ggX1_endedFrom_Jx4a65c_size_8abf5 : GoodIn wsX1_endedFrom wsJx4a65c_size_8abf5 := goodIn_r _ [10, 11, 46, 47, 48] (by decide +kernel) (by decide +kernel)
set_option maxRecDepth 20000 in
theorem gX1_endedFrom_Jx4a65c_size_8abf5 : GoodIn wsX1_endedFrom (wsV RX1 61 RJx4a65c yJx4a65c_size_8abf5 wsJx4a65c_size_8abf5) := goodIn_app (goodIn_of _ (by decide +kernel)) ggX1_endedFrom_Jx4a65c_size_8abf5
set_option maxRecDepth 20000 in
theorem ggX1_endedFrom_Jx4a65c_get_915e3 : GoodIn wsX1_endedFrom wsJx4a65c_get_915e3 := goodIn_r _ [15, 11, 16, 17, 18, 19, 20, 21, 22, 23, 24, 25, 26, 9, 27, 28, 46, 47, 48] (by decide +kernel) (by decide +kernel)
set_option maxRecDepth 20000 in
theorem gX1_endedFrom_Jx4a65c_get_915e3 : GoodIn wsX1_endedFrom (wsV RX1 65 RJx4a65c yJx4a65c_get_915e3 wsJx4a65c_get_915e3) := goodIn_app (goodIn_of _ (by decide +kernel)) ggX1_endedFrom_Jx4a65c_get_915e3
set_option maxRecDepth 20000 in
theorem ggX1_endedFrom_X1_offencesCounted : GoodIn wsX1_endedFrom wsX1_offencesCounted := goodIn_r _ [33, 2, 3, 5, 4, 34, 6, 7, 8, 9, 10, 11, 12, 13, 14, 15, 16, 17, 18, 19, 20, 21, 22, 23, 24, 25, 26, 27, 28, 35, 36, 37, 38, 39, 40, 41, 42, 43, 44, 45, 46, 47, 48] (by decide +kernel) (by decide +kernel)
set_option maxRecDepth 20000 in
theorem gX1_endedFrom_X1_offencesCounted : GoodIn wsX1_endedFrom (wsV RX1 90 RX1 yX1_offencesCounted wsX1_offencesCounted) := goodIn_app (goodIn_of _ (by decide +kernel)) ggX1_endedFrom_X1_offencesCounted
theorem dX1_endedFrom_0 : decode cX1_endedFrom 0 = .ok (.ldc 86, 2) := by decide +kernel
theorem dX1_endedFrom_2 : decode cX1_endedFrom 2 = .ok (.istore_n 2, 1) := by decide +kernel
theorem dX1_endedFrom_3 : decode cX1_endedFrom 3 = .ok (.iconst 0, 1) := by decide +kernel
theorem dX1_endedFrom_4 : decode cX1_endedFrom 4 = .ok (.istore_n 3, 1) := by decide +kernel
theorem dX1_endedFrom_5 : decode cX1_endedFrom 5 = .ok (.iload_n 3, 1) := by decide +kernel
theorem dX1_endedFrom_6 : decode cX1_endedFrom 6 = .ok (.aload_n 0, 1) := by decide +kernel
theorem dX1_endedFrom_7 : decode cX1_endedFrom 7 = .ok (.getfield 27, 3) := by decide +kernel
theorem dX1_endedFrom_10 : decode cX1_endedFrom 10 = .ok (.invokevirtual 61, 3) := by decide +kernel
theorem dX1_endedFrom_13 : decode cX1_endedFrom 13 = .ok (.if_icmp .ge 80, 3) := by decide +kernel
theorem dX1_endedFrom_16 : decode cX1_endedFrom 16 = .ok (.aload_n 0, 1) := by decide +kernel
theorem dX1_endedFrom_17 : decode cX1_endedFrom 17 = .ok (.getfield 27, 3) := by decide +kernel
theorem dX1_endedFrom_20 : decode cX1_endedFrom 20 = .ok (.iload_n 3, 1) := by decide +kernel
theorem dX1_endedFrom_21 : decode cX1_endedFrom 21 = .ok (.invokevirtual 65, 3) := by decide +kernel
theorem dX1_endedFrom_24 : decode cX1_endedFrom 24 = .ok (.checkcast 47, 3) := by decide +kernel
theorem dX1_endedFrom_27 : decode cX1_endedFrom 27 = .ok (.astore 4, 2) := by decide +kernel
theorem dX1_endedFrom_29 : decode cX1_endedFrom 29 = .ok (.aload 4, 2) := by decide +kernel
theorem dX1_endedFrom_31 : decode cX1_endedFrom 31 = .ok (.getfield 69, 3) := by decide +kernel
theorem dX1_endedFrom_34 : decode cX1_endedFrom 34 = .ok (.ifCond .ne 25, 3) := by decide +kernel
theorem dX1_endedFrom_37 : decode cX1_endedFrom 37 = .ok (.aload 4, 2) := by decide +kernel
theorem dX1_endedFrom_39 : decode cX1_endedFrom 39 = .ok (.getfield 87, 3) := by decide +kernel
theorem dX1_endedFrom_42 : decode cX1_endedFrom 42 = .ok (.iload_n 1, 1) := by decide +kernel
theorem dX1_endedFrom_43 : decode cX1_endedFrom 43 = .ok (.if_icmp .gt 16, 3) := by decide +kernel
theorem dX1_endedFrom_46 : decode cX1_endedFrom 46 = .ok (.aload 4, 2) := by decide +kernel
theorem dX1_endedFrom_48 : decode cX1_endedFrom 48 = .ok (.getfield 87, 3) := by decide +kernel
theorem dX1_endedFrom_51 : decode cX1_endedFrom 51 = .ok (.iload_n 2, 1) := by decide +kernel
theorem dX1_endedFrom_52 : decode cX1_endedFrom 52 = .ok (.if_icmp .ge 7, 3) := by decide +kernel
theorem dX1_endedFrom_55 : decode cX1_endedFrom 55 = .ok (.iconst 1, 1) := by decide +kernel
theorem dX1_endedFrom_56 : decode cX1_endedFrom 56 = .ok (.goto 4, 3) := by decide +kernel
theorem dX1_endedFrom_59 : decode cX1_endedFrom 59 = .ok (.iconst 0, 1) := by decide +kernel
theorem dX1_endedFrom_60 : decode cX1_endedFrom 60 = .ok (.istore 5, 2) := by decide +kernel
theorem dX1_endedFrom_62 : decode cX1_endedFrom 62 = .ok (.iload 5, 2) := by decide +kernel
theorem dX1_endedFrom_64 : decode cX1_endedFrom 64 = .ok (.ifCond .eq 23, 3) := by decide +kernel
theorem dX1_endedFrom_67 : decode cX1_endedFrom 67 = .ok (.aload_n 0, 1) := by decide +kernel
theorem dX1_endedFrom_68 : decode cX1_endedFrom 68 = .ok (.aload 4, 2) := by decide +kernel
theorem dX1_endedFrom_70 : decode cX1_endedFrom 70 = .ok (.getfield 87, 3) := by decide +kernel
theorem dX1_endedFrom_73 : decode cX1_endedFrom 73 = .ok (.iload_n 1, 1) := by decide +kernel
theorem dX1_endedFrom_74 : decode cX1_endedFrom 74 = .ok (.invokevirtual 90, 3) := by decide +kernel
theorem dX1_endedFrom_77 : decode cX1_endedFrom 77 = .ok (.iconst 3, 1) := by decide +kernel
theorem dX1_endedFrom_78 : decode cX1_endedFrom 78 = .ok (.if_icmp .lt 9, 3) := by decide +kernel
theorem dX1_endedFrom_81 : decode cX1_endedFrom 81 = .ok (.aload 4, 2) := by decide +kernel
theorem dX1_endedFrom_83 : decode cX1_endedFrom 83 = .ok (.getfield 87, 3) := by decide +kernel
theorem dX1_endedFrom_86 : decode cX1_endedFrom 86 = .ok (.istore_n 2, 1) := by decide +kernel
theorem dX1_endedFrom_87 : decode cX1_endedFrom 87 = .ok (.iinc 3 1, 3) := by decide +kernel
theorem dX1_endedFrom_90 : decode cX1_endedFrom 90 = .ok (.goto (-85), 3) := by decide +kernel
theorem dX1_endedFrom_93 : decode cX1_endedFrom 93 = .ok (.iload_n 2, 1) := by decide +kernel
theorem dX1_endedFrom_94 : decode cX1_endedFrom 94 = .ok (.ireturn, 1) := by decide +kernel
set_option maxRecDepth 20000 in
theorem ggX1_offencesCounted_Jx4a65c_size_8abf5 : GoodIn wsX1_offencesCounted wsJx4a65c_size_8abf5 := goodIn_r _ [10, 11, 40, 41, 42] (by decide +kernel) (by decide +kernel)
set_option maxRecDepth 20000 in
theorem gX1_offencesCounted_Jx4a65c_size_8abf5 : GoodIn wsX1_offencesCounted (wsV RX1 61 RJx4a65c yJx4a65c_size_8abf5 wsJx4a65c_size_8abf5) := goodIn_app (goodIn_of _ (by decide +kernel)) ggX1_offencesCounted_Jx4a65c_size_8abf5
set_option maxRecDepth 20000 in
theorem ggX1_offencesCounted_Jx4a65c_get_915e3 : GoodIn wsX1_offencesCounted wsJx4a65c_get_915e3 := goodIn_r _ [15, 11, 16, 17, 18, 19, 20, 21, 22, 23, 24, 25, 26, 9, 27, 28, 40, 41, 42] (by decide +kernel) (by decide +kernel)
set_option maxRecDepth 20000 in
theorem gX1_offencesCounted_Jx4a65c_get_915e3 : GoodIn wsX1_offencesCounted (wsV RX1 65 RJx4a65c yJx4a65c_get_915e3 wsJx4a65c_get_915e3) := goodIn_app (goodIn_of _ (by decide +kernel)) ggX1_offencesCounted_Jx4a65c_get_915e3
theorem dX1_offencesCounted_0 : decode cX1_offencesCounted 0 = .ok (.iconst 0, 1) := by decide +kernel
theorem dX1_offencesCounted_1 : decode cX1_offencesCounted 1 = .ok (.istore_n 3, 1) := by decide +kernel
theorem dX1_offencesCounted_2 : decode cX1_offencesCounted 2 = .ok (.iconst 0, 1) := by decide +kernel
theorem dX1_offencesCounted_3 : decode cX1_offencesCounted 3 = .ok (.istore 4, 2) := by decide +kernel
theorem dX1_offencesCounted_5 : decode cX1_offencesCounted 5 = .ok (.iload 4, 2) := by decide +kernel
theorem dX1_offencesCounted_7 : decode cX1_offencesCounted 7 = .ok (.aload_n 0, 1) := by decide +kernel
theorem dX1_offencesCounted_8 : decode cX1_offencesCounted 8 = .ok (.getfield 27, 3) := by decide +kernel
theorem dX1_offencesCounted_11 : decode cX1_offencesCounted 11 = .ok (.invokevirtual 61, 3) := by decide +kernel
theorem dX1_offencesCounted_14 : decode cX1_offencesCounted 14 = .ok (.if_icmp .ge 77, 3) := by decide +kernel
theorem dX1_offencesCounted_17 : decode cX1_offencesCounted 17 = .ok (.aload_n 0, 1) := by decide +kernel
theorem dX1_offencesCounted_18 : decode cX1_offencesCounted 18 = .ok (.getfield 27, 3) := by decide +kernel
theorem dX1_offencesCounted_21 : decode cX1_offencesCounted 21 = .ok (.iload 4, 2) := by decide +kernel
theorem dX1_offencesCounted_23 : decode cX1_offencesCounted 23 = .ok (.invokevirtual 65, 3) := by decide +kernel
theorem dX1_offencesCounted_26 : decode cX1_offencesCounted 26 = .ok (.checkcast 47, 3) := by decide +kernel
theorem dX1_offencesCounted_29 : decode cX1_offencesCounted 29 = .ok (.astore 5, 2) := by decide +kernel
theorem dX1_offencesCounted_31 : decode cX1_offencesCounted 31 = .ok (.aload 5, 2) := by decide +kernel
theorem dX1_offencesCounted_33 : decode cX1_offencesCounted 33 = .ok (.getfield 87, 3) := by decide +kernel
theorem dX1_offencesCounted_36 : decode cX1_offencesCounted 36 = .ok (.iload_n 1, 1) := by decide +kernel
theorem dX1_offencesCounted_37 : decode cX1_offencesCounted 37 = .ok (.sipush 1825, 3) := by decide +kernel
theorem dX1_offencesCounted_40 : decode cX1_offencesCounted 40 = .ok (.isub, 1) := by decide +kernel
theorem dX1_offencesCounted_41 : decode cX1_offencesCounted 41 = .ok (.if_icmp .lt 16, 3) := by decide +kernel
theorem dX1_offencesCounted_44 : decode cX1_offencesCounted 44 = .ok (.aload 5, 2) := by decide +kernel
theorem dX1_offencesCounted_46 : decode cX1_offencesCounted 46 = .ok (.getfield 87, 3) := by decide +kernel
theorem dX1_offencesCounted_49 : decode cX1_offencesCounted 49 = .ok (.iload_n 1, 1) := by decide +kernel
theorem dX1_offencesCounted_50 : decode cX1_offencesCounted 50 = .ok (.if_icmp .gt 7, 3) := by decide +kernel
theorem dX1_offencesCounted_53 : decode cX1_offencesCounted 53 = .ok (.iconst 1, 1) := by decide +kernel
theorem dX1_offencesCounted_54 : decode cX1_offencesCounted 54 = .ok (.goto 4, 3) := by decide +kernel
theorem dX1_offencesCounted_57 : decode cX1_offencesCounted 57 = .ok (.iconst 0, 1) := by decide +kernel
theorem dX1_offencesCounted_58 : decode cX1_offencesCounted 58 = .ok (.istore 6, 2) := by decide +kernel
theorem dX1_offencesCounted_60 : decode cX1_offencesCounted 60 = .ok (.iload 6, 2) := by decide +kernel
theorem dX1_offencesCounted_62 : decode cX1_offencesCounted 62 = .ok (.ifCond .eq 23, 3) := by decide +kernel
theorem dX1_offencesCounted_65 : decode cX1_offencesCounted 65 = .ok (.aload 5, 2) := by decide +kernel
theorem dX1_offencesCounted_67 : decode cX1_offencesCounted 67 = .ok (.getfield 69, 3) := by decide +kernel
theorem dX1_offencesCounted_70 : decode cX1_offencesCounted 70 = .ok (.ifCond .ne 15, 3) := by decide +kernel
theorem dX1_offencesCounted_73 : decode cX1_offencesCounted 73 = .ok (.aload 5, 2) := by decide +kernel
theorem dX1_offencesCounted_75 : decode cX1_offencesCounted 75 = .ok (.getfield 52, 3) := by decide +kernel
theorem dX1_offencesCounted_78 : decode cX1_offencesCounted 78 = .ok (.iload_n 2, 1) := by decide +kernel
theorem dX1_offencesCounted_79 : decode cX1_offencesCounted 79 = .ok (.if_icmp .le 6, 3) := by decide +kernel
theorem dX1_offencesCounted_82 : decode cX1_offencesCounted 82 = .ok (.iinc 3 1, 3) := by decide +kernel
theorem dX1_offencesCounted_85 : decode cX1_offencesCounted 85 = .ok (.iinc 4 1, 3) := by decide +kernel
theorem dX1_offencesCounted_88 : decode cX1_offencesCounted 88 = .ok (.goto (-83), 3) := by decide +kernel
theorem dX1_offencesCounted_91 : decode cX1_offencesCounted 91 = .ok (.iload_n 3, 1) := by decide +kernel
theorem dX1_offencesCounted_92 : decode cX1_offencesCounted 92 = .ok (.ireturn, 1) := by decide +kernel
set_option maxRecDepth 20000 in
theorem ggX1_lapsedFrom_Jx4a65c_size_8abf5 : GoodIn wsX1_lapsedFrom wsJx4a65c_size_8abf5 := goodIn_r _ [10, 11, 48, 49, 50] (by decide +kernel) (by decide +kernel)
set_option maxRecDepth 20000 in
theorem gX1_lapsedFrom_Jx4a65c_size_8abf5 : GoodIn wsX1_lapsedFrom (wsV RX1 61 RJx4a65c yJx4a65c_size_8abf5 wsJx4a65c_size_8abf5) := goodIn_app (goodIn_of _ (by decide +kernel)) ggX1_lapsedFrom_Jx4a65c_size_8abf5
set_option maxRecDepth 20000 in
theorem ggX1_lapsedFrom_Jx4a65c_get_915e3 : GoodIn wsX1_lapsedFrom wsJx4a65c_get_915e3 := goodIn_r _ [15, 11, 16, 17, 18, 19, 20, 21, 22, 23, 24, 25, 26, 9, 27, 28, 48, 49, 50] (by decide +kernel) (by decide +kernel)
set_option maxRecDepth 20000 in
theorem gX1_lapsedFrom_Jx4a65c_get_915e3 : GoodIn wsX1_lapsedFrom (wsV RX1 65 RJx4a65c yJx4a65c_get_915e3 wsJx4a65c_get_915e3) := goodIn_app (goodIn_of _ (by decide +kernel)) ggX1_lapsedFrom_Jx4a65c_get_915e3
set_option maxRecDepth 20000 in
theorem ggX1_lapsedFrom_X1_isTransferred : GoodIn wsX1_lapsedFrom wsX1_isTransferred := goodIn_r _ [33, 2, 3, 5, 4, 6, 7, 8, 9, 10, 11, 12, 13, 14, 15, 16, 17, 18, 19, 20, 21, 22, 23, 24, 25, 26, 27, 28, 34, 35, 36, 37, 38, 39, 40, 41, 42, 43, 44, 45, 46, 47, 48, 49, 50] (by decide +kernel) (by decide +kernel)
set_option maxRecDepth 20000 in
theorem gX1_lapsedFrom_X1_isTransferred : GoodIn wsX1_lapsedFrom (wsV RX1 93 RX1 yX1_isTransferred wsX1_isTransferred) := goodIn_app (goodIn_of _ (by decide +kernel)) ggX1_lapsedFrom_X1_isTransferred
theorem dX1_lapsedFrom_0 : decode cX1_lapsedFrom 0 = .ok (.ldc 86, 2) := by decide +kernel
theorem dX1_lapsedFrom_2 : decode cX1_lapsedFrom 2 = .ok (.istore_n 2, 1) := by decide +kernel
theorem dX1_lapsedFrom_3 : decode cX1_lapsedFrom 3 = .ok (.iconst 0, 1) := by decide +kernel
theorem dX1_lapsedFrom_4 : decode cX1_lapsedFrom 4 = .ok (.istore_n 3, 1) := by decide +kernel
theorem dX1_lapsedFrom_5 : decode cX1_lapsedFrom 5 = .ok (.iload_n 3, 1) := by decide +kernel
theorem dX1_lapsedFrom_6 : decode cX1_lapsedFrom 6 = .ok (.aload_n 0, 1) := by decide +kernel
theorem dX1_lapsedFrom_7 : decode cX1_lapsedFrom 7 = .ok (.getfield 27, 3) := by decide +kernel
theorem dX1_lapsedFrom_10 : decode cX1_lapsedFrom 10 = .ok (.invokevirtual 61, 3) := by decide +kernel
theorem dX1_lapsedFrom_13 : decode cX1_lapsedFrom 13 = .ok (.if_icmp .ge 84, 3) := by decide +kernel
theorem dX1_lapsedFrom_16 : decode cX1_lapsedFrom 16 = .ok (.aload_n 0, 1) := by decide +kernel
theorem dX1_lapsedFrom_17 : decode cX1_lapsedFrom 17 = .ok (.getfield 27, 3) := by decide +kernel
theorem dX1_lapsedFrom_20 : decode cX1_lapsedFrom 20 = .ok (.iload_n 3, 1) := by decide +kernel
theorem dX1_lapsedFrom_21 : decode cX1_lapsedFrom 21 = .ok (.invokevirtual 65, 3) := by decide +kernel
theorem dX1_lapsedFrom_24 : decode cX1_lapsedFrom 24 = .ok (.checkcast 47, 3) := by decide +kernel
theorem dX1_lapsedFrom_27 : decode cX1_lapsedFrom 27 = .ok (.astore 4, 2) := by decide +kernel
theorem dX1_lapsedFrom_29 : decode cX1_lapsedFrom 29 = .ok (.aload 4, 2) := by decide +kernel
theorem dX1_lapsedFrom_31 : decode cX1_lapsedFrom 31 = .ok (.getfield 87, 3) := by decide +kernel
theorem dX1_lapsedFrom_34 : decode cX1_lapsedFrom 34 = .ok (.bipush 28, 2) := by decide +kernel
theorem dX1_lapsedFrom_36 : decode cX1_lapsedFrom 36 = .ok (.iadd, 1) := by decide +kernel
theorem dX1_lapsedFrom_37 : decode cX1_lapsedFrom 37 = .ok (.istore 5, 2) := by decide +kernel
theorem dX1_lapsedFrom_39 : decode cX1_lapsedFrom 39 = .ok (.aload 4, 2) := by decide +kernel
theorem dX1_lapsedFrom_41 : decode cX1_lapsedFrom 41 = .ok (.getfield 69, 3) := by decide +kernel
theorem dX1_lapsedFrom_44 : decode cX1_lapsedFrom 44 = .ok (.iconst 2, 1) := by decide +kernel
theorem dX1_lapsedFrom_45 : decode cX1_lapsedFrom 45 = .ok (.if_icmp .ne 13, 3) := by decide +kernel
theorem dX1_lapsedFrom_48 : decode cX1_lapsedFrom 48 = .ok (.iload 5, 2) := by decide +kernel
theorem dX1_lapsedFrom_50 : decode cX1_lapsedFrom 50 = .ok (.iload_n 1, 1) := by decide +kernel
theorem dX1_lapsedFrom_51 : decode cX1_lapsedFrom 51 = .ok (.if_icmp .gt 7, 3) := by decide +kernel
theorem dX1_lapsedFrom_54 : decode cX1_lapsedFrom 54 = .ok (.iconst 1, 1) := by decide +kernel
theorem dX1_lapsedFrom_55 : decode cX1_lapsedFrom 55 = .ok (.goto 4, 3) := by decide +kernel
theorem dX1_lapsedFrom_58 : decode cX1_lapsedFrom 58 = .ok (.iconst 0, 1) := by decide +kernel
theorem dX1_lapsedFrom_59 : decode cX1_lapsedFrom 59 = .ok (.istore 6, 2) := by decide +kernel
theorem dX1_lapsedFrom_61 : decode cX1_lapsedFrom 61 = .ok (.iload 6, 2) := by decide +kernel
theorem dX1_lapsedFrom_63 : decode cX1_lapsedFrom 63 = .ok (.ifCond .eq 28, 3) := by decide +kernel
theorem dX1_lapsedFrom_66 : decode cX1_lapsedFrom 66 = .ok (.iload 5, 2) := by decide +kernel
theorem dX1_lapsedFrom_68 : decode cX1_lapsedFrom 68 = .ok (.iload_n 2, 1) := by decide +kernel
theorem dX1_lapsedFrom_69 : decode cX1_lapsedFrom 69 = .ok (.if_icmp .ge 22, 3) := by decide +kernel
theorem dX1_lapsedFrom_72 : decode cX1_lapsedFrom 72 = .ok (.aload_n 0, 1) := by decide +kernel
theorem dX1_lapsedFrom_73 : decode cX1_lapsedFrom 73 = .ok (.aload 4, 2) := by decide +kernel
theorem dX1_lapsedFrom_75 : decode cX1_lapsedFrom 75 = .ok (.getfield 87, 3) := by decide +kernel
theorem dX1_lapsedFrom_78 : decode cX1_lapsedFrom 78 = .ok (.iload 5, 2) := by decide +kernel
theorem dX1_lapsedFrom_80 : decode cX1_lapsedFrom 80 = .ok (.iconst 1, 1) := by decide +kernel
theorem dX1_lapsedFrom_81 : decode cX1_lapsedFrom 81 = .ok (.isub, 1) := by decide +kernel
theorem dX1_lapsedFrom_82 : decode cX1_lapsedFrom 82 = .ok (.invokevirtual 93, 3) := by decide +kernel
theorem dX1_lapsedFrom_85 : decode cX1_lapsedFrom 85 = .ok (.ifCond .ne 6, 3) := by decide +kernel
theorem dX1_lapsedFrom_88 : decode cX1_lapsedFrom 88 = .ok (.iload 5, 2) := by decide +kernel
theorem dX1_lapsedFrom_90 : decode cX1_lapsedFrom 90 = .ok (.istore_n 2, 1) := by decide +kernel
theorem dX1_lapsedFrom_91 : decode cX1_lapsedFrom 91 = .ok (.iinc 3 1, 3) := by decide +kernel
theorem dX1_lapsedFrom_94 : decode cX1_lapsedFrom 94 = .ok (.goto (-89), 3) := by decide +kernel
theorem dX1_lapsedFrom_97 : decode cX1_lapsedFrom 97 = .ok (.iload_n 2, 1) := by decide +kernel
theorem dX1_lapsedFrom_98 : decode cX1_lapsedFrom 98 = .ok (.ireturn, 1) := by decide +kernel
set_option maxRecDepth 20000 in
theorem ggX1_isTransferred_Jx4a65c_size_8abf5 : GoodIn wsX1_isTransferred wsJx4a65c_size_8abf5 := goodIn_r _ [9, 10, 42, 43, 44] (by decide +kernel) (by decide +kernel)
set_option maxRecDepth 20000 in
theorem gX1_isTransferred_Jx4a65c_size_8abf5 : GoodIn wsX1_isTransferred (wsV RX1 61 RJx4a65c yJx4a65c_size_8abf5 wsJx4a65c_size_8abf5) := goodIn_app (goodIn_of _ (by decide +kernel)) ggX1_isTransferred_Jx4a65c_size_8abf5
set_option maxRecDepth 20000 in
theorem ggX1_isTransferred_Jx4a65c_get_915e3 : GoodIn wsX1_isTransferred wsJx4a65c_get_915e3 := goodIn_r _ [14, 10, 15, 16, 17, 18, 19, 20, 21, 22, 23, 24, 25, 8, 26, 27, 42, 43, 44] (by decide +kernel) (by decide +kernel)
set_option maxRecDepth 20000 in
theorem gX1_isTransferred_Jx4a65c_get_915e3 : GoodIn wsX1_isTransferred (wsV RX1 65 RJx4a65c yJx4a65c_get_915e3 wsJx4a65c_get_915e3) := goodIn_app (goodIn_of _ (by decide +kernel)) ggX1_isTransferred_Jx4a65c_get_915e3
set_option maxRecDepth 20000 in
theorem ggX1_isTransferred_X5_isIn : GoodIn wsX1_isTransferred wsX5_isIn := goodIn_r _ [30] (by decide +kernel) (by decide +kernel)
set_option maxRecDepth 20000 in
theorem gX1_isTransferred_X5_isIn_n97 : GoodIn wsX1_isTransferred (wsX5_isIn) := ggX1_isTransferred_X5_isIn
theorem dX1_isTransferred_0 : decode cX1_isTransferred 0 = .ok (.iconst 0, 1) := by decide +kernel
theorem dX1_isTransferred_1 : decode cX1_isTransferred 1 = .ok (.istore_n 3, 1) := by decide +kernel
theorem dX1_isTransferred_2 : decode cX1_isTransferred 2 = .ok (.iload_n 3, 1) := by decide +kernel
theorem dX1_isTransferred_3 : decode cX1_isTransferred 3 = .ok (.aload_n 0, 1) := by decide +kernel
theorem dX1_isTransferred_4 : decode cX1_isTransferred 4 = .ok (.getfield 27, 3) := by decide +kernel
theorem dX1_isTransferred_7 : decode cX1_isTransferred 7 = .ok (.invokevirtual 61, 3) := by decide +kernel
theorem dX1_isTransferred_10 : decode cX1_isTransferred 10 = .ok (.if_icmp .ge 46, 3) := by decide +kernel
theorem dX1_isTransferred_13 : decode cX1_isTransferred 13 = .ok (.aload_n 0, 1) := by decide +kernel
theorem dX1_isTransferred_14 : decode cX1_isTransferred 14 = .ok (.getfield 27, 3) := by decide +kernel
theorem dX1_isTransferred_17 : decode cX1_isTransferred 17 = .ok (.iload_n 3, 1) := by decide +kernel
theorem dX1_isTransferred_18 : decode cX1_isTransferred 18 = .ok (.invokevirtual 65, 3) := by decide +kernel
theorem dX1_isTransferred_21 : decode cX1_isTransferred 21 = .ok (.checkcast 47, 3) := by decide +kernel
theorem dX1_isTransferred_24 : decode cX1_isTransferred 24 = .ok (.astore 4, 2) := by decide +kernel
theorem dX1_isTransferred_26 : decode cX1_isTransferred 26 = .ok (.aload 4, 2) := by decide +kernel
theorem dX1_isTransferred_28 : decode cX1_isTransferred 28 = .ok (.getfield 69, 3) := by decide +kernel
theorem dX1_isTransferred_31 : decode cX1_isTransferred 31 = .ok (.iconst 3, 1) := by decide +kernel
theorem dX1_isTransferred_32 : decode cX1_isTransferred 32 = .ok (.if_icmp .ne 18, 3) := by decide +kernel
theorem dX1_isTransferred_35 : decode cX1_isTransferred 35 = .ok (.aload 4, 2) := by decide +kernel
theorem dX1_isTransferred_37 : decode cX1_isTransferred 37 = .ok (.getfield 87, 3) := by decide +kernel
theorem dX1_isTransferred_40 : decode cX1_isTransferred 40 = .ok (.iload_n 1, 1) := by decide +kernel
theorem dX1_isTransferred_41 : decode cX1_isTransferred 41 = .ok (.iload_n 2, 1) := by decide +kernel
theorem dX1_isTransferred_42 : decode cX1_isTransferred 42 = .ok (.invokestatic 97, 3) := by decide +kernel
theorem dX1_isTransferred_45 : decode cX1_isTransferred 45 = .ok (.ifCond .eq 5, 3) := by decide +kernel
theorem dX1_isTransferred_48 : decode cX1_isTransferred 48 = .ok (.iconst 1, 1) := by decide +kernel
theorem dX1_isTransferred_49 : decode cX1_isTransferred 49 = .ok (.ireturn, 1) := by decide +kernel
theorem dX1_isTransferred_50 : decode cX1_isTransferred 50 = .ok (.iinc 3 1, 3) := by decide +kernel
theorem dX1_isTransferred_53 : decode cX1_isTransferred 53 = .ok (.goto (-51), 3) := by decide +kernel
theorem dX1_isTransferred_56 : decode cX1_isTransferred 56 = .ok (.iconst 0, 1) := by decide +kernel
theorem dX1_isTransferred_57 : decode cX1_isTransferred 57 = .ok (.ireturn, 1) := by decide +kernel
set_option maxRecDepth 20000 in
theorem ggX1_surplusFrom_Jx4a65c_size_8abf5 : GoodIn wsX1_surplusFrom wsJx4a65c_size_8abf5 := goodIn_r _ [14, 15, 44, 45, 46] (by decide +kernel) (by decide +kernel)
set_option maxRecDepth 20000 in
theorem gX1_surplusFrom_Jx4a65c_size_8abf5 : GoodIn wsX1_surplusFrom (wsV RX1 61 RJx4a65c yJx4a65c_size_8abf5 wsJx4a65c_size_8abf5) := goodIn_app (goodIn_of _ (by decide +kernel)) ggX1_surplusFrom_Jx4a65c_size_8abf5
set_option maxRecDepth 20000 in
theorem ggX1_surplusFrom_Jx4a65c_get_915e3 : GoodIn wsX1_surplusFrom wsJx4a65c_get_915e3 := goodIn_r _ [19, 15, 20, 21, 22, 23, 24, 25, 26, 27, 28, 29, 30, 13, 31, 32, 44, 45, 46] (by decide +kernel) (by decide +kernel)
set_option maxRecDepth 20000 in
theorem gX1_surplusFrom_Jx4a65c_get_915e3 : GoodIn wsX1_surplusFrom (wsV RX1 65 RJx4a65c yJx4a65c_get_915e3 wsJx4a65c_get_915e3) := goodIn_app (goodIn_of _ (by decide +kernel)) ggX1_surplusFrom_Jx4a65c_get_915e3
theorem dX1_surplusFrom_0 : decode cX1_surplusFrom 0 = .ok (.ldc 86, 2) := by decide +kernel
theorem dX1_surplusFrom_2 : decode cX1_surplusFrom 2 = .ok (.istore_n 2, 1) := by decide +kernel
theorem dX1_surplusFrom_3 : decode cX1_surplusFrom 3 = .ok (.iconst 0, 1) := by decide +kernel
theorem dX1_surplusFrom_4 : decode cX1_surplusFrom 4 = .ok (.istore_n 3, 1) := by decide +kernel
theorem dX1_surplusFrom_5 : decode cX1_surplusFrom 5 = .ok (.iload_n 3, 1) := by decide +kernel
theorem dX1_surplusFrom_6 : decode cX1_surplusFrom 6 = .ok (.aload_n 0, 1) := by decide +kernel
theorem dX1_surplusFrom_7 : decode cX1_surplusFrom 7 = .ok (.getfield 27, 3) := by decide +kernel
theorem dX1_surplusFrom_10 : decode cX1_surplusFrom 10 = .ok (.invokevirtual 61, 3) := by decide +kernel
theorem dX1_surplusFrom_13 : decode cX1_surplusFrom 13 = .ok (.if_icmp .ge 51, 3) := by decide +kernel
theorem dX1_surplusFrom_16 : decode cX1_surplusFrom 16 = .ok (.aload_n 0, 1) := by decide +kernel
theorem dX1_surplusFrom_17 : decode cX1_surplusFrom 17 = .ok (.getfield 27, 3) := by decide +kernel
theorem dX1_surplusFrom_20 : decode cX1_surplusFrom 20 = .ok (.iload_n 3, 1) := by decide +kernel
theorem dX1_surplusFrom_21 : decode cX1_surplusFrom 21 = .ok (.invokevirtual 65, 3) := by decide +kernel
theorem dX1_surplusFrom_24 : decode cX1_surplusFrom 24 = .ok (.checkcast 47, 3) := by decide +kernel
theorem dX1_surplusFrom_27 : decode cX1_surplusFrom 27 = .ok (.astore 4, 2) := by decide +kernel
theorem dX1_surplusFrom_29 : decode cX1_surplusFrom 29 = .ok (.aload 4, 2) := by decide +kernel
theorem dX1_surplusFrom_31 : decode cX1_surplusFrom 31 = .ok (.getfield 69, 3) := by decide +kernel
theorem dX1_surplusFrom_34 : decode cX1_surplusFrom 34 = .ok (.bipush 6, 2) := by decide +kernel
theorem dX1_surplusFrom_36 : decode cX1_surplusFrom 36 = .ok (.if_icmp .ne 22, 3) := by decide +kernel
theorem dX1_surplusFrom_39 : decode cX1_surplusFrom 39 = .ok (.aload 4, 2) := by decide +kernel
theorem dX1_surplusFrom_41 : decode cX1_surplusFrom 41 = .ok (.getfield 87, 3) := by decide +kernel
theorem dX1_surplusFrom_44 : decode cX1_surplusFrom 44 = .ok (.iload_n 1, 1) := by decide +kernel
theorem dX1_surplusFrom_45 : decode cX1_surplusFrom 45 = .ok (.if_icmp .gt 13, 3) := by decide +kernel
theorem dX1_surplusFrom_48 : decode cX1_surplusFrom 48 = .ok (.iload_n 2, 1) := by decide +kernel
theorem dX1_surplusFrom_49 : decode cX1_surplusFrom 49 = .ok (.aload 4, 2) := by decide +kernel
theorem dX1_surplusFrom_51 : decode cX1_surplusFrom 51 = .ok (.getfield 87, 3) := by decide +kernel
theorem dX1_surplusFrom_54 : decode cX1_surplusFrom 54 = .ok (.invokestatic 55, 3) := by decide +kernel
theorem dX1_surplusFrom_57 : decode cX1_surplusFrom 57 = .ok (.istore_n 2, 1) := by decide +kernel
theorem dX1_surplusFrom_58 : decode cX1_surplusFrom 58 = .ok (.iinc 3 1, 3) := by decide +kernel
theorem dX1_surplusFrom_61 : decode cX1_surplusFrom 61 = .ok (.goto (-56), 3) := by decide +kernel
theorem dX1_surplusFrom_64 : decode cX1_surplusFrom 64 = .ok (.iload_n 2, 1) := by decide +kernel
theorem dX1_surplusFrom_65 : decode cX1_surplusFrom 65 = .ok (.ireturn, 1) := by decide +kernel
set_option maxRecDepth 20000 in
theorem ggX1_conditionOn_Jx4a65c_size_8abf5 : GoodIn wsX1_conditionOn wsJx4a65c_size_8abf5 := goodIn_r _ [10, 11, 43, 44, 45] (by decide +kernel) (by decide +kernel)
set_option maxRecDepth 20000 in
theorem gX1_conditionOn_Jx4a65c_size_8abf5 : GoodIn wsX1_conditionOn (wsV RX1 61 RJx4a65c yJx4a65c_size_8abf5 wsJx4a65c_size_8abf5) := goodIn_app (goodIn_of _ (by decide +kernel)) ggX1_conditionOn_Jx4a65c_size_8abf5
set_option maxRecDepth 20000 in
theorem ggX1_conditionOn_Jx4a65c_get_915e3 : GoodIn wsX1_conditionOn wsJx4a65c_get_915e3 := goodIn_r _ [15, 11, 16, 17, 18, 19, 20, 21, 22, 23, 24, 25, 26, 9, 27, 28, 43, 44, 45] (by decide +kernel) (by decide +kernel)
set_option maxRecDepth 20000 in
theorem gX1_conditionOn_Jx4a65c_get_915e3 : GoodIn wsX1_conditionOn (wsV RX1 65 RJx4a65c yJx4a65c_get_915e3 wsJx4a65c_get_915e3) := goodIn_app (goodIn_of _ (by decide +kernel)) ggX1_conditionOn_Jx4a65c_get_915e3
set_option maxRecDepth 20000 in
theorem ggX1_conditionOn_X5_isIn : GoodIn wsX1_conditionOn wsX5_isIn := goodIn_r _ [31] (by decide +kernel) (by decide +kernel)
set_option maxRecDepth 20000 in
theorem gX1_conditionOn_X5_isIn_n97 : GoodIn wsX1_conditionOn (wsX5_isIn) := ggX1_conditionOn_X5_isIn
theorem dX1_conditionOn_0 : decode cX1_conditionOn 0 = .ok (.iconst 0, 1) := by decide +kernel
theorem dX1_conditionOn_1 : decode cX1_conditionOn 1 = .ok (.istore_n 2, 1) := by decide +kernel
theorem dX1_conditionOn_2 : decode cX1_conditionOn 2 = .ok (.bipush (-4), 2) := by decide +kernel
theorem dX1_conditionOn_4 : decode cX1_conditionOn 4 = .ok (.istore_n 3, 1) := by decide +kernel
theorem dX1_conditionOn_5 : decode cX1_conditionOn 5 = .ok (.iconst 0, 1) := by decide +kernel
theorem dX1_conditionOn_6 : decode cX1_conditionOn 6 = .ok (.istore 4, 2) := by decide +kernel
theorem dX1_conditionOn_8 : decode cX1_conditionOn 8 = .ok (.iload 4, 2) := by decide +kernel
theorem dX1_conditionOn_10 : decode cX1_conditionOn 10 = .ok (.aload_n 0, 1) := by decide +kernel
theorem dX1_conditionOn_11 : decode cX1_conditionOn 11 = .ok (.getfield 27, 3) := by decide +kernel
theorem dX1_conditionOn_14 : decode cX1_conditionOn 14 = .ok (.invokevirtual 61, 3) := by decide +kernel
theorem dX1_conditionOn_17 : decode cX1_conditionOn 17 = .ok (.if_icmp .ge 92, 3) := by decide +kernel
theorem dX1_conditionOn_20 : decode cX1_conditionOn 20 = .ok (.aload_n 0, 1) := by decide +kernel
theorem dX1_conditionOn_21 : decode cX1_conditionOn 21 = .ok (.getfield 27, 3) := by decide +kernel
theorem dX1_conditionOn_24 : decode cX1_conditionOn 24 = .ok (.iload 4, 2) := by decide +kernel
theorem dX1_conditionOn_26 : decode cX1_conditionOn 26 = .ok (.invokevirtual 65, 3) := by decide +kernel
theorem dX1_conditionOn_29 : decode cX1_conditionOn 29 = .ok (.checkcast 47, 3) := by decide +kernel
theorem dX1_conditionOn_32 : decode cX1_conditionOn 32 = .ok (.astore 5, 2) := by decide +kernel
theorem dX1_conditionOn_34 : decode cX1_conditionOn 34 = .ok (.aload 5, 2) := by decide +kernel
theorem dX1_conditionOn_36 : decode cX1_conditionOn 36 = .ok (.getfield 69, 3) := by decide +kernel
theorem dX1_conditionOn_39 : decode cX1_conditionOn 39 = .ok (.iconst 4, 1) := by decide +kernel
theorem dX1_conditionOn_40 : decode cX1_conditionOn 40 = .ok (.if_icmp .eq 12, 3) := by decide +kernel
theorem dX1_conditionOn_43 : decode cX1_conditionOn 43 = .ok (.aload 5, 2) := by decide +kernel
theorem dX1_conditionOn_45 : decode cX1_conditionOn 45 = .ok (.getfield 69, 3) := by decide +kernel
theorem dX1_conditionOn_48 : decode cX1_conditionOn 48 = .ok (.iconst 5, 1) := by decide +kernel
theorem dX1_conditionOn_49 : decode cX1_conditionOn 49 = .ok (.if_icmp .ne 7, 3) := by decide +kernel
theorem dX1_conditionOn_52 : decode cX1_conditionOn 52 = .ok (.iconst 1, 1) := by decide +kernel
theorem dX1_conditionOn_53 : decode cX1_conditionOn 53 = .ok (.goto 4, 3) := by decide +kernel
theorem dX1_conditionOn_56 : decode cX1_conditionOn 56 = .ok (.iconst 0, 1) := by decide +kernel
theorem dX1_conditionOn_57 : decode cX1_conditionOn 57 = .ok (.istore 6, 2) := by decide +kernel
theorem dX1_conditionOn_59 : decode cX1_conditionOn 59 = .ok (.iload 6, 2) := by decide +kernel
theorem dX1_conditionOn_61 : decode cX1_conditionOn 61 = .ok (.ifCond .eq 42, 3) := by decide +kernel
theorem dX1_conditionOn_64 : decode cX1_conditionOn 64 = .ok (.aload 5, 2) := by decide +kernel
theorem dX1_conditionOn_66 : decode cX1_conditionOn 66 = .ok (.getfield 87, 3) := by decide +kernel
theorem dX1_conditionOn_69 : decode cX1_conditionOn 69 = .ok (.iload_n 2, 1) := by decide +kernel
theorem dX1_conditionOn_70 : decode cX1_conditionOn 70 = .ok (.iload_n 1, 1) := by decide +kernel
theorem dX1_conditionOn_71 : decode cX1_conditionOn 71 = .ok (.invokestatic 97, 3) := by decide +kernel
theorem dX1_conditionOn_74 : decode cX1_conditionOn 74 = .ok (.ifCond .eq 29, 3) := by decide +kernel
theorem dX1_conditionOn_77 : decode cX1_conditionOn 77 = .ok (.aload 5, 2) := by decide +kernel
theorem dX1_conditionOn_79 : decode cX1_conditionOn 79 = .ok (.getfield 87, 3) := by decide +kernel
theorem dX1_conditionOn_82 : decode cX1_conditionOn 82 = .ok (.istore_n 2, 1) := by decide +kernel
theorem dX1_conditionOn_83 : decode cX1_conditionOn 83 = .ok (.aload 5, 2) := by decide +kernel
theorem dX1_conditionOn_85 : decode cX1_conditionOn 85 = .ok (.getfield 69, 3) := by decide +kernel
theorem dX1_conditionOn_88 : decode cX1_conditionOn 88 = .ok (.iconst 4, 1) := by decide +kernel
theorem dX1_conditionOn_89 : decode cX1_conditionOn 89 = .ok (.if_icmp .ne 11, 3) := by decide +kernel
theorem dX1_conditionOn_92 : decode cX1_conditionOn 92 = .ok (.aload 5, 2) := by decide +kernel
theorem dX1_conditionOn_94 : decode cX1_conditionOn 94 = .ok (.getfield 70, 3) := by decide +kernel
theorem dX1_conditionOn_97 : decode cX1_conditionOn 97 = .ok (.goto 5, 3) := by decide +kernel
theorem dX1_conditionOn_100 : decode cX1_conditionOn 100 = .ok (.bipush (-4), 2) := by decide +kernel
theorem dX1_conditionOn_102 : decode cX1_conditionOn 102 = .ok (.istore_n 3, 1) := by decide +kernel
theorem dX1_conditionOn_103 : decode cX1_conditionOn 103 = .ok (.iinc 4 1, 3) := by decide +kernel
theorem dX1_conditionOn_106 : decode cX1_conditionOn 106 = .ok (.goto (-98), 3) := by decide +kernel
theorem dX1_conditionOn_109 : decode cX1_conditionOn 109 = .ok (.iload_n 3, 1) := by decide +kernel
theorem dX1_conditionOn_110 : decode cX1_conditionOn 110 = .ok (.ireturn, 1) := by decide +kernel
set_option maxRecDepth 20000 in
theorem ggX1_worthOn_Jx4a65c_isEmpty_aae02 : GoodIn wsX1_worthOn wsJx4a65c_isEmpty_aae02 := goodIn_r _ [9, 10, 44, 45, 46] (by decide +kernel) (by decide +kernel)
set_option maxRecDepth 20000 in
theorem gX1_worthOn_Jx4a65c_isEmpty_aae02 : GoodIn wsX1_worthOn (wsV RX1 101 RJx4a65c yJx4a65c_isEmpty_aae02 wsJx4a65c_isEmpty_aae02) := goodIn_app (goodIn_of _ (by decide +kernel)) ggX1_worthOn_Jx4a65c_isEmpty_aae02
set_option maxRecDepth 20000 in
theorem ggX1_worthOn_Jx4a65c_get_915e3 : GoodIn wsX1_worthOn wsJx4a65c_get_915e3 := goodIn_r _ [14, 10, 15, 16, 17, 18, 19, 20, 21, 22, 23, 24, 25, 8, 26, 27, 44, 45, 46] (by decide +kernel) (by decide +kernel)
set_option maxRecDepth 20000 in
theorem gX1_worthOn_Jx4a65c_get_915e3 : GoodIn wsX1_worthOn (wsV RX1 65 RJx4a65c yJx4a65c_get_915e3 wsJx4a65c_get_915e3) := goodIn_app (goodIn_of _ (by decide +kernel)) ggX1_worthOn_Jx4a65c_get_915e3
set_option maxRecDepth 20000 in
theorem ggX1_worthOn_Jx4a65c_size_8abf5 : GoodIn wsX1_worthOn wsJx4a65c_size_8abf5 := goodIn_r _ [31, 10, 44, 45, 46] (by decide +kernel) (by decide +kernel)
set_option maxRecDepth 20000 in
theorem gX1_worthOn_Jx4a65c_size_8abf5 : GoodIn wsX1_worthOn (wsV RX1 61 RJx4a65c yJx4a65c_size_8abf5 wsJx4a65c_size_8abf5) := goodIn_app (goodIn_of _ (by decide +kernel)) ggX1_worthOn_Jx4a65c_size_8abf5
set_option maxRecDepth 20000 in
theorem ggX1_worthOn_X5_isIn : GoodIn wsX1_worthOn wsX5_isIn := goodIn_r _ [34] (by decide +kernel) (by decide +kernel)
set_option maxRecDepth 20000 in
theorem gX1_worthOn_X5_isIn_n97 : GoodIn wsX1_worthOn (wsX5_isIn) := ggX1_worthOn_X5_isIn
theorem dX1_worthOn_0 : decode cX1_worthOn 0 = .ok (.iconst 0, 1) := by decide +kernel
theorem dX1_worthOn_1 : decode cX1_worthOn 1 = .ok (.istore_n 2, 1) := by decide +kernel
theorem dX1_worthOn_2 : decode cX1_worthOn 2 = .ok (.aload_n 0, 1) := by decide +kernel
theorem dX1_worthOn_3 : decode cX1_worthOn 3 = .ok (.getfield 31, 3) := by decide +kernel
theorem dX1_worthOn_6 : decode cX1_worthOn 6 = .ok (.invokevirtual 101, 3) := by decide +kernel
theorem dX1_worthOn_9 : decode cX1_worthOn 9 = .ok (.ifCond .eq 7, 3) := by decide +kernel
theorem dX1_worthOn_12 : decode cX1_worthOn 12 = .ok (.iconst 0, 1) := by decide +kernel
theorem dX1_worthOn_13 : decode cX1_worthOn 13 = .ok (.goto 17, 3) := by decide +kernel
theorem dX1_worthOn_16 : decode cX1_worthOn 16 = .ok (.aload_n 0, 1) := by decide +kernel
theorem dX1_worthOn_17 : decode cX1_worthOn 17 = .ok (.getfield 31, 3) := by decide +kernel
theorem dX1_worthOn_20 : decode cX1_worthOn 20 = .ok (.iconst 0, 1) := by decide +kernel
theorem dX1_worthOn_21 : decode cX1_worthOn 21 = .ok (.invokevirtual 65, 3) := by decide +kernel
theorem dX1_worthOn_24 : decode cX1_worthOn 24 = .ok (.checkcast 34, 3) := by decide +kernel
theorem dX1_worthOn_27 : decode cX1_worthOn 27 = .ok (.getfield 105, 3) := by decide +kernel
theorem dX1_worthOn_30 : decode cX1_worthOn 30 = .ok (.istore_n 3, 1) := by decide +kernel
theorem dX1_worthOn_31 : decode cX1_worthOn 31 = .ok (.iconst 0, 1) := by decide +kernel
theorem dX1_worthOn_32 : decode cX1_worthOn 32 = .ok (.istore 4, 2) := by decide +kernel
theorem dX1_worthOn_34 : decode cX1_worthOn 34 = .ok (.iload 4, 2) := by decide +kernel
theorem dX1_worthOn_36 : decode cX1_worthOn 36 = .ok (.aload_n 0, 1) := by decide +kernel
theorem dX1_worthOn_37 : decode cX1_worthOn 37 = .ok (.getfield 31, 3) := by decide +kernel
theorem dX1_worthOn_40 : decode cX1_worthOn 40 = .ok (.invokevirtual 61, 3) := by decide +kernel
theorem dX1_worthOn_43 : decode cX1_worthOn 43 = .ok (.if_icmp .ge 48, 3) := by decide +kernel
theorem dX1_worthOn_46 : decode cX1_worthOn 46 = .ok (.aload_n 0, 1) := by decide +kernel
theorem dX1_worthOn_47 : decode cX1_worthOn 47 = .ok (.getfield 31, 3) := by decide +kernel
theorem dX1_worthOn_50 : decode cX1_worthOn 50 = .ok (.iload 4, 2) := by decide +kernel
theorem dX1_worthOn_52 : decode cX1_worthOn 52 = .ok (.invokevirtual 65, 3) := by decide +kernel
theorem dX1_worthOn_55 : decode cX1_worthOn 55 = .ok (.checkcast 34, 3) := by decide +kernel
theorem dX1_worthOn_58 : decode cX1_worthOn 58 = .ok (.astore 5, 2) := by decide +kernel
theorem dX1_worthOn_60 : decode cX1_worthOn 60 = .ok (.aload 5, 2) := by decide +kernel
theorem dX1_worthOn_62 : decode cX1_worthOn 62 = .ok (.getfield 108, 3) := by decide +kernel
theorem dX1_worthOn_65 : decode cX1_worthOn 65 = .ok (.iload_n 2, 1) := by decide +kernel
theorem dX1_worthOn_66 : decode cX1_worthOn 66 = .ok (.iload_n 1, 1) := by decide +kernel
theorem dX1_worthOn_67 : decode cX1_worthOn 67 = .ok (.invokestatic 97, 3) := by decide +kernel
theorem dX1_worthOn_70 : decode cX1_worthOn 70 = .ok (.ifCond .eq 15, 3) := by decide +kernel
theorem dX1_worthOn_73 : decode cX1_worthOn 73 = .ok (.aload 5, 2) := by decide +kernel
theorem dX1_worthOn_75 : decode cX1_worthOn 75 = .ok (.getfield 108, 3) := by decide +kernel
theorem dX1_worthOn_78 : decode cX1_worthOn 78 = .ok (.istore_n 2, 1) := by decide +kernel
theorem dX1_worthOn_79 : decode cX1_worthOn 79 = .ok (.aload 5, 2) := by decide +kernel
theorem dX1_worthOn_81 : decode cX1_worthOn 81 = .ok (.getfield 105, 3) := by decide +kernel
theorem dX1_worthOn_84 : decode cX1_worthOn 84 = .ok (.istore_n 3, 1) := by decide +kernel
theorem dX1_worthOn_85 : decode cX1_worthOn 85 = .ok (.iinc 4 1, 3) := by decide +kernel
theorem dX1_worthOn_88 : decode cX1_worthOn 88 = .ok (.goto (-54), 3) := by decide +kernel
theorem dX1_worthOn_91 : decode cX1_worthOn 91 = .ok (.iload_n 3, 1) := by decide +kernel
theorem dX1_worthOn_92 : decode cX1_worthOn 92 = .ok (.ireturn, 1) := by decide +kernel
theorem dX2_init_0 : decode cX2_init 0 = .ok (.aload_n 0, 1) := by decide +kernel
theorem dX2_init_1 : decode cX2_init 1 = .ok (.invokespecial 1, 3) := by decide +kernel
theorem dX2_init_4 : decode cX2_init 4 = .ok (.aload_n 0, 1) := by decide +kernel
theorem dX2_init_5 : decode cX2_init 5 = .ok (.iload_n 1, 1) := by decide +kernel
theorem dX2_init_6 : decode cX2_init 6 = .ok (.putfield 7, 3) := by decide +kernel
theorem dX2_init_9 : decode cX2_init 9 = .ok (.aload_n 0, 1) := by decide +kernel
theorem dX2_init_10 : decode cX2_init 10 = .ok (.iload_n 2, 1) := by decide +kernel
theorem dX2_init_11 : decode cX2_init 11 = .ok (.putfield 13, 3) := by decide +kernel
theorem dX2_init_14 : decode cX2_init 14 = .ok (.aload_n 0, 1) := by decide +kernel
theorem dX2_init_15 : decode cX2_init 15 = .ok (.iload_n 3, 1) := by decide +kernel
theorem dX2_init_16 : decode cX2_init 16 = .ok (.putfield 16, 3) := by decide +kernel
theorem dX2_init_19 : decode cX2_init 19 = .ok (.aload_n 0, 1) := by decide +kernel
theorem dX2_init_20 : decode cX2_init 20 = .ok (.iload 4, 2) := by decide +kernel
theorem dX2_init_22 : decode cX2_init 22 = .ok (.putfield 19, 3) := by decide +kernel
theorem dX2_init_25 : decode cX2_init 25 = .ok (.aload_n 0, 1) := by decide +kernel
theorem dX2_init_26 : decode cX2_init 26 = .ok (.iload 5, 2) := by decide +kernel
theorem dX2_init_28 : decode cX2_init 28 = .ok (.putfield 22, 3) := by decide +kernel
theorem dX2_init_31 : decode cX2_init 31 = .ok (.return_, 1) := by decide +kernel
theorem dX3_init_0 : decode cX3_init 0 = .ok (.aload_n 0, 1) := by decide +kernel
theorem dX3_init_1 : decode cX3_init 1 = .ok (.invokespecial 1, 3) := by decide +kernel
theorem dX3_init_4 : decode cX3_init 4 = .ok (.aload_n 0, 1) := by decide +kernel
theorem dX3_init_5 : decode cX3_init 5 = .ok (.iload_n 1, 1) := by decide +kernel
theorem dX3_init_6 : decode cX3_init 6 = .ok (.putfield 7, 3) := by decide +kernel
theorem dX3_init_9 : decode cX3_init 9 = .ok (.aload_n 0, 1) := by decide +kernel
theorem dX3_init_10 : decode cX3_init 10 = .ok (.iload_n 2, 1) := by decide +kernel
theorem dX3_init_11 : decode cX3_init 11 = .ok (.putfield 13, 3) := by decide +kernel
theorem dX3_init_14 : decode cX3_init 14 = .ok (.aload_n 0, 1) := by decide +kernel
theorem dX3_init_15 : decode cX3_init 15 = .ok (.iload_n 3, 1) := by decide +kernel
theorem dX3_init_16 : decode cX3_init 16 = .ok (.putfield 16, 3) := by decide +kernel
theorem dX3_init_19 : decode cX3_init 19 = .ok (.return_, 1) := by decide +kernel
theorem dX4_init_0 : decode cX4_init 0 = .ok (.aload_n 0, 1) := by decide +kernel
theorem dX4_init_1 : decode cX4_init 1 = .ok (.invokespecial 1, 3) := by decide +kernel
theorem dX4_init_4 : decode cX4_init 4 = .ok (.aload_n 0, 1) := by decide +kernel
theorem dX4_init_5 : decode cX4_init 5 = .ok (.iload_n 1, 1) := by decide +kernel
theorem dX4_init_6 : decode cX4_init 6 = .ok (.putfield 7, 3) := by decide +kernel
theorem dX4_init_9 : decode cX4_init 9 = .ok (.aload_n 0, 1) := by decide +kernel
theorem dX4_init_10 : decode cX4_init 10 = .ok (.iload_n 2, 1) := by decide +kernel
theorem dX4_init_11 : decode cX4_init 11 = .ok (.putfield 13, 3) := by decide +kernel
theorem dX4_init_14 : decode cX4_init 14 = .ok (.return_, 1) := by decide +kernel
set_option maxRecDepth 20000 in
theorem ggX5_init_Jx4a65c_init_da8c8 : GoodIn wsX5_init wsJx4a65c_init_da8c8 := goodIn_r _ [21, 22, 23, 24, 25, 26, 27, 28, 29, 30, 31, 32, 33, 2, 3, 43, 44, 45] (by decide +kernel) (by decide +kernel)
set_option maxRecDepth 20000 in
theorem gX5_init_Jx4a65c_init_da8c8 : GoodIn wsX5_init (wsJx4a65c_init_da8c8) := ggX5_init_Jx4a65c_init_da8c8
set_option maxRecDepth 20000 in
theorem ggX5_init_X2_init : GoodIn wsX5_init wsX2_init := goodIn_r _ [36, 37, 2, 3, 38, 39, 40, 41, 42, 57, 58, 59, 60, 61] (by decide +kernel) (by decide +kernel)
set_option maxRecDepth 20000 in
theorem gX5_init_X2_init : GoodIn wsX5_init (wsX2_init) := ggX5_init_X2_init
theorem dX5_init_0 : decode cX5_init 0 = .ok (.aload_n 0, 1) := by decide +kernel
theorem dX5_init_1 : decode cX5_init 1 = .ok (.invokespecial 1, 3) := by decide +kernel
theorem dX5_init_4 : decode cX5_init 4 = .ok (.aload_n 0, 1) := by decide +kernel
theorem dX5_init_5 : decode cX5_init 5 = .ok (.new 7, 3) := by decide +kernel
theorem dX5_init_8 : decode cX5_init 8 = .ok (.dup, 1) := by decide +kernel
theorem dX5_init_9 : decode cX5_init 9 = .ok (.invokespecial 9, 3) := by decide +kernel
theorem dX5_init_12 : decode cX5_init 12 = .ok (.putfield 10, 3) := by decide +kernel
theorem dX5_init_15 : decode cX5_init 15 = .ok (.aload_n 0, 1) := by decide +kernel
theorem dX5_init_16 : decode cX5_init 16 = .ok (.new 7, 3) := by decide +kernel
theorem dX5_init_19 : decode cX5_init 19 = .ok (.dup, 1) := by decide +kernel
theorem dX5_init_20 : decode cX5_init 20 = .ok (.invokespecial 9, 3) := by decide +kernel
theorem dX5_init_23 : decode cX5_init 23 = .ok (.putfield 16, 3) := by decide +kernel
theorem dX5_init_26 : decode cX5_init 26 = .ok (.aload_n 0, 1) := by decide +kernel
theorem dX5_init_27 : decode cX5_init 27 = .ok (.new 7, 3) := by decide +kernel
theorem dX5_init_30 : decode cX5_init 30 = .ok (.dup, 1) := by decide +kernel
theorem dX5_init_31 : decode cX5_init 31 = .ok (.invokespecial 9, 3) := by decide +kernel
theorem dX5_init_34 : decode cX5_init 34 = .ok (.putfield 19, 3) := by decide +kernel
theorem dX5_init_37 : decode cX5_init 37 = .ok (.aload_n 0, 1) := by decide +kernel
theorem dX5_init_38 : decode cX5_init 38 = .ok (.bipush 20, 2) := by decide +kernel
theorem dX5_init_40 : decode cX5_init 40 = .ok (.newarray .int, 2) := by decide +kernel
theorem dX5_init_42 : decode cX5_init 42 = .ok (.putfield 22, 3) := by decide +kernel
theorem dX5_init_45 : decode cX5_init 45 = .ok (.aload_n 0, 1) := by decide +kernel
theorem dX5_init_46 : decode cX5_init 46 = .ok (.new 26, 3) := by decide +kernel
theorem dX5_init_49 : decode cX5_init 49 = .ok (.dup, 1) := by decide +kernel
theorem dX5_init_50 : decode cX5_init 50 = .ok (.iconst 0, 1) := by decide +kernel
theorem dX5_init_51 : decode cX5_init 51 = .ok (.iconst 0, 1) := by decide +kernel
theorem dX5_init_52 : decode cX5_init 52 = .ok (.iconst 0, 1) := by decide +kernel
theorem dX5_init_53 : decode cX5_init 53 = .ok (.iconst 0, 1) := by decide +kernel
theorem dX5_init_54 : decode cX5_init 54 = .ok (.iconst 0, 1) := by decide +kernel
theorem dX5_init_55 : decode cX5_init 55 = .ok (.invokespecial 28, 3) := by decide +kernel
theorem dX5_init_58 : decode cX5_init 58 = .ok (.putfield 31, 3) := by decide +kernel
theorem dX5_init_61 : decode cX5_init 61 = .ok (.aload_n 0, 1) := by decide +kernel
theorem dX5_init_62 : decode cX5_init 62 = .ok (.bipush 20, 2) := by decide +kernel
theorem dX5_init_64 : decode cX5_init 64 = .ok (.putfield 35, 3) := by decide +kernel
theorem dX5_init_67 : decode cX5_init 67 = .ok (.aload_n 0, 1) := by decide +kernel
theorem dX5_init_68 : decode cX5_init 68 = .ok (.bipush 100, 2) := by decide +kernel
theorem dX5_init_70 : decode cX5_init 70 = .ok (.putfield 39, 3) := by decide +kernel
theorem dX5_init_73 : decode cX5_init 73 = .ok (.aload_n 0, 1) := by decide +kernel
theorem dX5_init_74 : decode cX5_init 74 = .ok (.lconst 1, 1) := by decide +kernel
theorem dX5_init_75 : decode cX5_init 75 = .ok (.putfield 42, 3) := by decide +kernel
theorem dX5_init_78 : decode cX5_init 78 = .ok (.return_, 1) := by decide +kernel
set_option maxRecDepth 20000 in
theorem ggX5_feast_X5_isDay : GoodIn wsX5_feast wsX5_isDay := goodIn_r _ [6, 7, 8, 5, 9] (by decide +kernel) (by decide +kernel)
set_option maxRecDepth 20000 in
theorem gX5_feast_X5_isDay : GoodIn wsX5_feast (va_wsS RX5 46 yX5_isDay wsX5_isDay) := goodIn_app (goodIn_of _ (by decide +kernel)) ggX5_feast_X5_isDay
set_option maxRecDepth 20000 in
theorem ggX5_feast_X5_isFeast : GoodIn wsX5_feast wsX5_isFeast := goodIn_r _ [13, 1, 2, 14, 15, 16, 17, 18, 19, 20, 21, 22, 23, 24] (by decide +kernel) (by decide +kernel)
set_option maxRecDepth 20000 in
theorem gX5_feast_X5_isFeast : GoodIn wsX5_feast (wsV RX5 50 RX5 yX5_isFeast wsX5_isFeast) := goodIn_app (goodIn_of _ (by decide +kernel)) ggX5_feast_X5_isFeast
theorem dX5_feast_0 : decode cX5_feast 0 = .ok (.iload_n 1, 1) := by decide +kernel
theorem dX5_feast_1 : decode cX5_feast 1 = .ok (.invokestatic 46, 3) := by decide +kernel
theorem dX5_feast_4 : decode cX5_feast 4 = .ok (.ifCond .ne 5, 3) := by decide +kernel
theorem dX5_feast_7 : decode cX5_feast 7 = .ok (.iconst (-1), 1) := by decide +kernel
theorem dX5_feast_8 : decode cX5_feast 8 = .ok (.ireturn, 1) := by decide +kernel
theorem dX5_feast_9 : decode cX5_feast 9 = .ok (.aload_n 0, 1) := by decide +kernel
theorem dX5_feast_10 : decode cX5_feast 10 = .ok (.iload_n 1, 1) := by decide +kernel
theorem dX5_feast_11 : decode cX5_feast 11 = .ok (.invokevirtual 50, 3) := by decide +kernel
theorem dX5_feast_14 : decode cX5_feast 14 = .ok (.ifCond .eq 6, 3) := by decide +kernel
theorem dX5_feast_17 : decode cX5_feast 17 = .ok (.bipush (-2), 2) := by decide +kernel
theorem dX5_feast_19 : decode cX5_feast 19 = .ok (.ireturn, 1) := by decide +kernel
theorem dX5_feast_20 : decode cX5_feast 20 = .ok (.aload_n 0, 1) := by decide +kernel
theorem dX5_feast_21 : decode cX5_feast 21 = .ok (.getfield 53, 3) := by decide +kernel
theorem dX5_feast_24 : decode cX5_feast 24 = .ok (.aload_n 0, 1) := by decide +kernel
theorem dX5_feast_25 : decode cX5_feast 25 = .ok (.getfield 22, 3) := by decide +kernel
theorem dX5_feast_28 : decode cX5_feast 28 = .ok (.arraylength, 1) := by decide +kernel
theorem dX5_feast_29 : decode cX5_feast 29 = .ok (.if_icmp .lt 6, 3) := by decide +kernel
theorem dX5_feast_32 : decode cX5_feast 32 = .ok (.bipush (-3), 2) := by decide +kernel
theorem dX5_feast_34 : decode cX5_feast 34 = .ok (.ireturn, 1) := by decide +kernel
theorem dX5_feast_35 : decode cX5_feast 35 = .ok (.aload_n 0, 1) := by decide +kernel
theorem dX5_feast_36 : decode cX5_feast 36 = .ok (.getfield 22, 3) := by decide +kernel
theorem dX5_feast_39 : decode cX5_feast 39 = .ok (.aload_n 0, 1) := by decide +kernel
theorem dX5_feast_40 : decode cX5_feast 40 = .ok (.getfield 53, 3) := by decide +kernel
theorem dX5_feast_43 : decode cX5_feast 43 = .ok (.iload_n 1, 1) := by decide +kernel
theorem dX5_feast_44 : decode cX5_feast 44 = .ok (.iastore, 1) := by decide +kernel
theorem dX5_feast_45 : decode cX5_feast 45 = .ok (.aload_n 0, 1) := by decide +kernel
theorem dX5_feast_46 : decode cX5_feast 46 = .ok (.dup, 1) := by decide +kernel
theorem dX5_feast_47 : decode cX5_feast 47 = .ok (.getfield 53, 3) := by decide +kernel
theorem dX5_feast_50 : decode cX5_feast 50 = .ok (.iconst 1, 1) := by decide +kernel
theorem dX5_feast_51 : decode cX5_feast 51 = .ok (.iadd, 1) := by decide +kernel
theorem dX5_feast_52 : decode cX5_feast 52 = .ok (.putfield 53, 3) := by decide +kernel
theorem dX5_feast_55 : decode cX5_feast 55 = .ok (.aload_n 0, 1) := by decide +kernel
theorem dX5_feast_56 : decode cX5_feast 56 = .ok (.getfield 53, 3) := by decide +kernel
theorem dX5_feast_59 : decode cX5_feast 59 = .ok (.ireturn, 1) := by decide +kernel
set_option maxRecDepth 20000 in
theorem ggX5_law_X5_isDay : GoodIn wsX5_law wsX5_isDay := goodIn_r _ [8, 9, 10, 7, 11] (by decide +kernel) (by decide +kernel)
set_option maxRecDepth 20000 in
theorem gX5_law_X5_isDay : GoodIn wsX5_law (va_wsS RX5 46 yX5_isDay wsX5_isDay) := goodIn_app (goodIn_of _ (by decide +kernel)) ggX5_law_X5_isDay
set_option maxRecDepth 20000 in
theorem ggX5_law_X5_isKind : GoodIn wsX5_law wsX5_isKind := goodIn_r _ [14, 9, 10, 7, 11] (by decide +kernel) (by decide +kernel)
set_option maxRecDepth 20000 in
theorem gX5_law_X5_isKind : GoodIn wsX5_law (va_wsS RX5 56 yX5_isKind wsX5_isKind) := goodIn_app (goodIn_of _ (by decide +kernel)) ggX5_law_X5_isKind
set_option maxRecDepth 20000 in
theorem ggX5_law_X5_isIn : GoodIn wsX5_law wsX5_isIn := goodIn_r _ [11] (by decide +kernel) (by decide +kernel)
set_option maxRecDepth 20000 in
theorem gX5_law_X5_isIn : GoodIn wsX5_law (va_wsS RX5 59 yX5_isIn wsX5_isIn) := goodIn_app (goodIn_of _ (by decide +kernel)) ggX5_law_X5_isIn
set_option maxRecDepth 20000 in
theorem ggX5_law_X5_areHours : GoodIn wsX5_law wsX5_areHours := goodIn_r _ [17, 9, 10, 7, 11] (by decide +kernel) (by decide +kernel)
set_option maxRecDepth 20000 in
theorem gX5_law_X5_areHours : GoodIn wsX5_law (va_wsS RX5 63 yX5_areHours wsX5_areHours) := goodIn_app (goodIn_of _ (by decide +kernel)) ggX5_law_X5_areHours
set_option maxRecDepth 20000 in
theorem ggX5_law_Jx4a65c_size_8abf5 : GoodIn wsX5_law wsJx4a65c_size_8abf5 := goodIn_r _ [22, 23, 105, 106, 107] (by decide +kernel) (by decide +kernel)
set_option maxRecDepth 20000 in
theorem gX5_law_Jx4a65c_size_8abf5 : GoodIn wsX5_law (wsV RX5 67 RJx4a65c yJx4a65c_size_8abf5 wsJx4a65c_size_8abf5) := goodIn_app (goodIn_of _ (by decide +kernel)) ggX5_law_Jx4a65c_size_8abf5
set_option maxRecDepth 20000 in
theorem ggX5_law_X2_init : GoodIn wsX5_law wsX2_init := goodIn_r _ [26, 27, 28, 29, 30, 31, 32, 33, 34, 100, 101, 102, 103, 104] (by decide +kernel) (by decide +kernel)
set_option maxRecDepth 20000 in
theorem gX5_law_X2_init : GoodIn wsX5_law (wsX2_init) := ggX5_law_X2_init
set_option maxRecDepth 20000 in
theorem ggX5_law_Jx4a65c_add_9ea2d : GoodIn wsX5_law wsJx4a65c_add_9ea2d := goodIn_r _ [38, 39, 40, 41, 23, 42, 43, 44, 21, 45, 46, 47, 48, 49, 50, 51, 52, 53, 54, 55, 56, 57, 58, 59, 60, 61, 62, 63, 64, 65, 66, 67, 68, 69, 70, 71, 72, 73, 74, 75, 76, 77, 78, 79, 80, 81, 82, 83, 84, 85, 86, 87, 88, 105, 106, 107] (by decide +kernel) (by decide +kernel)
set_option maxRecDepth 20000 in
theorem gX5_law_Jx4a65c_add_9ea2d : GoodIn wsX5_law (wsV RX5 71 RJx4a65c yJx4a65c_add_9ea2d wsJx4a65c_add_9ea2d) := goodIn_app (goodIn_of _ (by decide +kernel)) ggX5_law_Jx4a65c_add_9ea2d
theorem dX5_law_0 : decode cX5_law 0 = .ok (.iload_n 1, 1) := by decide +kernel
theorem dX5_law_1 : decode cX5_law 1 = .ok (.invokestatic 46, 3) := by decide +kernel
theorem dX5_law_4 : decode cX5_law 4 = .ok (.ifCond .eq 30, 3) := by decide +kernel
theorem dX5_law_7 : decode cX5_law 7 = .ok (.iload_n 2, 1) := by decide +kernel
theorem dX5_law_8 : decode cX5_law 8 = .ok (.invokestatic 56, 3) := by decide +kernel
theorem dX5_law_11 : decode cX5_law 11 = .ok (.ifCond .eq 23, 3) := by decide +kernel
theorem dX5_law_14 : decode cX5_law 14 = .ok (.iload_n 3, 1) := by decide +kernel
theorem dX5_law_15 : decode cX5_law 15 = .ok (.iconst 0, 1) := by decide +kernel
theorem dX5_law_16 : decode cX5_law 16 = .ok (.bipush 7, 2) := by decide +kernel
theorem dX5_law_18 : decode cX5_law 18 = .ok (.invokestatic 59, 3) := by decide +kernel
theorem dX5_law_21 : decode cX5_law 21 = .ok (.ifCond .eq 13, 3) := by decide +kernel
theorem dX5_law_24 : decode cX5_law 24 = .ok (.iload 4, 2) := by decide +kernel
theorem dX5_law_26 : decode cX5_law 26 = .ok (.iload 5, 2) := by decide +kernel
theorem dX5_law_28 : decode cX5_law 28 = .ok (.invokestatic 63, 3) := by decide +kernel
theorem dX5_law_31 : decode cX5_law 31 = .ok (.ifCond .ne 5, 3) := by decide +kernel
theorem dX5_law_34 : decode cX5_law 34 = .ok (.iconst (-1), 1) := by decide +kernel
theorem dX5_law_35 : decode cX5_law 35 = .ok (.ireturn, 1) := by decide +kernel
theorem dX5_law_36 : decode cX5_law 36 = .ok (.aload_n 0, 1) := by decide +kernel
theorem dX5_law_37 : decode cX5_law 37 = .ok (.getfield 10, 3) := by decide +kernel
theorem dX5_law_40 : decode cX5_law 40 = .ok (.invokevirtual 67, 3) := by decide +kernel
theorem dX5_law_43 : decode cX5_law 43 = .ok (.bipush 40, 2) := by decide +kernel
theorem dX5_law_45 : decode cX5_law 45 = .ok (.if_icmp .lt 6, 3) := by decide +kernel
theorem dX5_law_48 : decode cX5_law 48 = .ok (.bipush (-3), 2) := by decide +kernel
theorem dX5_law_50 : decode cX5_law 50 = .ok (.ireturn, 1) := by decide +kernel
theorem dX5_law_51 : decode cX5_law 51 = .ok (.aload_n 0, 1) := by decide +kernel
theorem dX5_law_52 : decode cX5_law 52 = .ok (.getfield 10, 3) := by decide +kernel
theorem dX5_law_55 : decode cX5_law 55 = .ok (.new 26, 3) := by decide +kernel
theorem dX5_law_58 : decode cX5_law 58 = .ok (.dup, 1) := by decide +kernel
theorem dX5_law_59 : decode cX5_law 59 = .ok (.iload_n 1, 1) := by decide +kernel
theorem dX5_law_60 : decode cX5_law 60 = .ok (.iload_n 2, 1) := by decide +kernel
theorem dX5_law_61 : decode cX5_law 61 = .ok (.iload_n 3, 1) := by decide +kernel
theorem dX5_law_62 : decode cX5_law 62 = .ok (.iload 4, 2) := by decide +kernel
theorem dX5_law_64 : decode cX5_law 64 = .ok (.iload 5, 2) := by decide +kernel
theorem dX5_law_66 : decode cX5_law 66 = .ok (.invokespecial 28, 3) := by decide +kernel
theorem dX5_law_69 : decode cX5_law 69 = .ok (.invokevirtual 71, 3) := by decide +kernel
theorem dX5_law_72 : decode cX5_law 72 = .ok (.pop, 1) := by decide +kernel
theorem dX5_law_73 : decode cX5_law 73 = .ok (.aload_n 0, 1) := by decide +kernel
theorem dX5_law_74 : decode cX5_law 74 = .ok (.getfield 10, 3) := by decide +kernel
theorem dX5_law_77 : decode cX5_law 77 = .ok (.invokevirtual 67, 3) := by decide +kernel
theorem dX5_law_80 : decode cX5_law 80 = .ok (.ireturn, 1) := by decide +kernel
set_option maxRecDepth 20000 in
theorem ggX5_rule_X5_isIn : GoodIn wsX5_rule wsX5_isIn := goodIn_r _ [6] (by decide +kernel) (by decide +kernel)
set_option maxRecDepth 20000 in
theorem gX5_rule_X5_isIn : GoodIn wsX5_rule (va_wsS RX5 59 yX5_isIn wsX5_isIn) := goodIn_app (goodIn_of _ (by decide +kernel)) ggX5_rule_X5_isIn
theorem dX5_rule_0 : decode cX5_rule 0 = .ok (.iload_n 1, 1) := by decide +kernel
theorem dX5_rule_1 : decode cX5_rule 1 = .ok (.ifCond .ne 26, 3) := by decide +kernel
theorem dX5_rule_4 : decode cX5_rule 4 = .ok (.iload_n 2, 1) := by decide +kernel
theorem dX5_rule_5 : decode cX5_rule 5 = .ok (.iconst 0, 1) := by decide +kernel
theorem dX5_rule_6 : decode cX5_rule 6 = .ok (.sipush 200, 3) := by decide +kernel
theorem dX5_rule_9 : decode cX5_rule 9 = .ok (.invokestatic 59, 3) := by decide +kernel
theorem dX5_rule_12 : decode cX5_rule 12 = .ok (.ifCond .eq 15, 3) := by decide +kernel
theorem dX5_rule_15 : decode cX5_rule 15 = .ok (.aload_n 0, 1) := by decide +kernel
theorem dX5_rule_16 : decode cX5_rule 16 = .ok (.getfield 35, 3) := by decide +kernel
theorem dX5_rule_19 : decode cX5_rule 19 = .ok (.istore_n 3, 1) := by decide +kernel
theorem dX5_rule_20 : decode cX5_rule 20 = .ok (.aload_n 0, 1) := by decide +kernel
theorem dX5_rule_21 : decode cX5_rule 21 = .ok (.iload_n 2, 1) := by decide +kernel
theorem dX5_rule_22 : decode cX5_rule 22 = .ok (.putfield 35, 3) := by decide +kernel
theorem dX5_rule_25 : decode cX5_rule 25 = .ok (.iload_n 3, 1) := by decide +kernel
theorem dX5_rule_26 : decode cX5_rule 26 = .ok (.ireturn, 1) := by decide +kernel
theorem dX5_rule_27 : decode cX5_rule 27 = .ok (.iload_n 1, 1) := by decide +kernel
theorem dX5_rule_28 : decode cX5_rule 28 = .ok (.iconst 1, 1) := by decide +kernel
theorem dX5_rule_29 : decode cX5_rule 29 = .ok (.if_icmp .ne 26, 3) := by decide +kernel
theorem dX5_rule_32 : decode cX5_rule 32 = .ok (.iload_n 2, 1) := by decide +kernel
theorem dX5_rule_33 : decode cX5_rule 33 = .ok (.iconst 0, 1) := by decide +kernel
theorem dX5_rule_34 : decode cX5_rule 34 = .ok (.sipush 500, 3) := by decide +kernel
theorem dX5_rule_37 : decode cX5_rule 37 = .ok (.invokestatic 59, 3) := by decide +kernel
theorem dX5_rule_40 : decode cX5_rule 40 = .ok (.ifCond .eq 15, 3) := by decide +kernel
theorem dX5_rule_43 : decode cX5_rule 43 = .ok (.aload_n 0, 1) := by decide +kernel
theorem dX5_rule_44 : decode cX5_rule 44 = .ok (.getfield 39, 3) := by decide +kernel
theorem dX5_rule_47 : decode cX5_rule 47 = .ok (.istore_n 3, 1) := by decide +kernel
theorem dX5_rule_48 : decode cX5_rule 48 = .ok (.aload_n 0, 1) := by decide +kernel
theorem dX5_rule_49 : decode cX5_rule 49 = .ok (.iload_n 2, 1) := by decide +kernel
theorem dX5_rule_50 : decode cX5_rule 50 = .ok (.putfield 39, 3) := by decide +kernel
theorem dX5_rule_53 : decode cX5_rule 53 = .ok (.iload_n 3, 1) := by decide +kernel
theorem dX5_rule_54 : decode cX5_rule 54 = .ok (.ireturn, 1) := by decide +kernel
theorem dX5_rule_55 : decode cX5_rule 55 = .ok (.iconst (-1), 1) := by decide +kernel
theorem dX5_rule_56 : decode cX5_rule 56 = .ok (.ireturn, 1) := by decide +kernel
set_option maxRecDepth 20000 in
theorem ggX5_objector_X5_isPlace : GoodIn wsX5_objector wsX5_isPlace := goodIn_r _ [8, 9, 10, 7, 11] (by decide +kernel) (by decide +kernel)
set_option maxRecDepth 20000 in
theorem gX5_objector_X5_isPlace : GoodIn wsX5_objector (va_wsS RX5 75 yX5_isPlace wsX5_isPlace) := goodIn_app (goodIn_of _ (by decide +kernel)) ggX5_objector_X5_isPlace
set_option maxRecDepth 20000 in
theorem ggX5_objector_X5_isIn : GoodIn wsX5_objector wsX5_isIn := goodIn_r _ [11] (by decide +kernel) (by decide +kernel)
set_option maxRecDepth 20000 in
theorem gX5_objector_X5_isIn : GoodIn wsX5_objector (va_wsS RX5 59 yX5_isIn wsX5_isIn) := goodIn_app (goodIn_of _ (by decide +kernel)) ggX5_objector_X5_isIn
set_option maxRecDepth 20000 in
theorem ggX5_objector_Jx4a65c_size_8abf5 : GoodIn wsX5_objector wsJx4a65c_size_8abf5 := goodIn_r _ [16, 17, 95, 96, 97] (by decide +kernel) (by decide +kernel)
set_option maxRecDepth 20000 in
theorem gX5_objector_Jx4a65c_size_8abf5 : GoodIn wsX5_objector (wsV RX5 67 RJx4a65c yJx4a65c_size_8abf5 wsJx4a65c_size_8abf5) := goodIn_app (goodIn_of _ (by decide +kernel)) ggX5_objector_Jx4a65c_size_8abf5
set_option maxRecDepth 20000 in
theorem ggX5_objector_X3_init : GoodIn wsX5_objector wsX3_init := goodIn_r _ [20, 21, 22, 23, 24, 25, 26, 92, 93, 94] (by decide +kernel) (by decide +kernel)
set_option maxRecDepth 20000 in
theorem gX5_objector_X3_init : GoodIn wsX5_objector (wsX3_init) := ggX5_objector_X3_init
set_option maxRecDepth 20000 in
theorem ggX5_objector_Jx4a65c_add_9ea2d : GoodIn wsX5_objector wsJx4a65c_add_9ea2d := goodIn_r _ [30, 31, 32, 33, 17, 34, 35, 36, 15, 37, 38, 39, 40, 41, 42, 43, 44, 45, 46, 47, 48, 49, 50, 51, 52, 53, 54, 55, 56, 57, 58, 59, 60, 61, 62, 63, 64, 65, 66, 67, 68, 69, 70, 71, 72, 73, 74, 75, 76, 77, 78, 79, 80, 95, 96, 97] (by decide +kernel) (by decide +kernel)
set_option maxRecDepth 20000 in
theorem gX5_objector_Jx4a65c_add_9ea2d : GoodIn wsX5_objector (wsV RX5 71 RJx4a65c yJx4a65c_add_9ea2d wsJx4a65c_add_9ea2d) := goodIn_app (goodIn_of _ (by decide +kernel)) ggX5_objector_Jx4a65c_add_9ea2d
theorem dX5_objector_0 : decode cX5_objector 0 = .ok (.iload_n 1, 1) := by decide +kernel
theorem dX5_objector_1 : decode cX5_objector 1 = .ok (.iload_n 2, 1) := by decide +kernel
theorem dX5_objector_2 : decode cX5_objector 2 = .ok (.invokestatic 75, 3) := by decide +kernel
theorem dX5_objector_5 : decode cX5_objector 5 = .ok (.ifCond .eq 13, 3) := by decide +kernel
theorem dX5_objector_8 : decode cX5_objector 8 = .ok (.iload_n 3, 1) := by decide +kernel
theorem dX5_objector_9 : decode cX5_objector 9 = .ok (.iconst 1, 1) := by decide +kernel
theorem dX5_objector_10 : decode cX5_objector 10 = .ok (.bipush 10, 2) := by decide +kernel
theorem dX5_objector_12 : decode cX5_objector 12 = .ok (.invokestatic 59, 3) := by decide +kernel
theorem dX5_objector_15 : decode cX5_objector 15 = .ok (.ifCond .ne 5, 3) := by decide +kernel
theorem dX5_objector_18 : decode cX5_objector 18 = .ok (.iconst (-1), 1) := by decide +kernel
theorem dX5_objector_19 : decode cX5_objector 19 = .ok (.ireturn, 1) := by decide +kernel
theorem dX5_objector_20 : decode cX5_objector 20 = .ok (.aload_n 0, 1) := by decide +kernel
theorem dX5_objector_21 : decode cX5_objector 21 = .ok (.getfield 16, 3) := by decide +kernel
theorem dX5_objector_24 : decode cX5_objector 24 = .ok (.invokevirtual 67, 3) := by decide +kernel
theorem dX5_objector_27 : decode cX5_objector 27 = .ok (.bipush 20, 2) := by decide +kernel
theorem dX5_objector_29 : decode cX5_objector 29 = .ok (.if_icmp .lt 6, 3) := by decide +kernel
theorem dX5_objector_32 : decode cX5_objector 32 = .ok (.bipush (-3), 2) := by decide +kernel
theorem dX5_objector_34 : decode cX5_objector 34 = .ok (.ireturn, 1) := by decide +kernel
theorem dX5_objector_35 : decode cX5_objector 35 = .ok (.aload_n 0, 1) := by decide +kernel
theorem dX5_objector_36 : decode cX5_objector 36 = .ok (.getfield 16, 3) := by decide +kernel
theorem dX5_objector_39 : decode cX5_objector 39 = .ok (.new 78, 3) := by decide +kernel
theorem dX5_objector_42 : decode cX5_objector 42 = .ok (.dup, 1) := by decide +kernel
theorem dX5_objector_43 : decode cX5_objector 43 = .ok (.iload_n 1, 1) := by decide +kernel
theorem dX5_objector_44 : decode cX5_objector 44 = .ok (.iload_n 2, 1) := by decide +kernel
theorem dX5_objector_45 : decode cX5_objector 45 = .ok (.iload_n 3, 1) := by decide +kernel
theorem dX5_objector_46 : decode cX5_objector 46 = .ok (.invokespecial 80, 3) := by decide +kernel
theorem dX5_objector_49 : decode cX5_objector 49 = .ok (.invokevirtual 71, 3) := by decide +kernel
theorem dX5_objector_52 : decode cX5_objector 52 = .ok (.pop, 1) := by decide +kernel
theorem dX5_objector_53 : decode cX5_objector 53 = .ok (.aload_n 0, 1) := by decide +kernel
theorem dX5_objector_54 : decode cX5_objector 54 = .ok (.getfield 16, 3) := by decide +kernel
theorem dX5_objector_57 : decode cX5_objector 57 = .ok (.invokevirtual 67, 3) := by decide +kernel
theorem dX5_objector_60 : decode cX5_objector 60 = .ok (.ireturn, 1) := by decide +kernel
set_option maxRecDepth 20000 in
theorem ggX5_ask_X5_isPlace : GoodIn wsX5_ask wsX5_isPlace := goodIn_r _ [9, 10, 11, 8, 12] (by decide +kernel) (by decide +kernel)
set_option maxRecDepth 20000 in
theorem gX5_ask_X5_isPlace : GoodIn wsX5_ask (va_wsS RX5 75 yX5_isPlace wsX5_isPlace) := goodIn_app (goodIn_of _ (by decide +kernel)) ggX5_ask_X5_isPlace
set_option maxRecDepth 20000 in
theorem ggX5_ask_X5_isKind : GoodIn wsX5_ask wsX5_isKind := goodIn_r _ [15, 10, 11, 8, 12] (by decide +kernel) (by decide +kernel)
set_option maxRecDepth 20000 in
theorem gX5_ask_X5_isKind : GoodIn wsX5_ask (va_wsS RX5 56 yX5_isKind wsX5_isKind) := goodIn_app (goodIn_of _ (by decide +kernel)) ggX5_ask_X5_isKind
set_option maxRecDepth 20000 in
theorem ggX5_ask_X5_isWorth : GoodIn wsX5_ask wsX5_isWorth := goodIn_r _ [18, 19, 10, 11, 8, 12] (by decide +kernel) (by decide +kernel)
set_option maxRecDepth 20000 in
theorem gX5_ask_X5_isWorth : GoodIn wsX5_ask (va_wsS RX5 83 yX5_isWorth wsX5_isWorth) := goodIn_app (goodIn_of _ (by decide +kernel)) ggX5_ask_X5_isWorth
set_option maxRecDepth 20000 in
theorem ggX5_ask_X5_isDay : GoodIn wsX5_ask wsX5_isDay := goodIn_r _ [22, 10, 11, 8, 12] (by decide +kernel) (by decide +kernel)
set_option maxRecDepth 20000 in
theorem gX5_ask_X5_isDay : GoodIn wsX5_ask (va_wsS RX5 46 yX5_isDay wsX5_isDay) := goodIn_app (goodIn_of _ (by decide +kernel)) ggX5_ask_X5_isDay
set_option maxRecDepth 20000 in
theorem ggX5_ask_Jx4a65c_size_8abf5 : GoodIn wsX5_ask wsJx4a65c_size_8abf5 := goodIn_r _ [27, 28, 215, 216, 217] (by decide +kernel) (by decide +kernel)
set_option maxRecDepth 20000 in
theorem gX5_ask_Jx4a65c_size_8abf5 : GoodIn wsX5_ask (wsV RX5 67 RJx4a65c yJx4a65c_size_8abf5 wsJx4a65c_size_8abf5) := goodIn_app (goodIn_of _ (by decide +kernel)) ggX5_ask_Jx4a65c_size_8abf5
set_option maxRecDepth 20000 in
theorem ggX5_ask_X5_judge : GoodIn wsX5_ask wsX5_judge := goodIn_r _ [32, 33, 34, 35, 8, 36, 1, 37, 38, 39, 40, 23, 24, 25, 26, 27, 28, 41, 42, 43, 44, 45, 46, 47, 48, 49, 50, 51, 52, 53, 54, 55, 56, 57, 58, 59, 60, 61, 62, 63, 5, 64, 65, 66, 67, 68, 69, 70, 71, 72, 73, 74, 75, 76, 77, 78, 79, 80, 81, 82, 83, 84, 85, 86, 87, 88, 89, 90, 91, 92, 93, 94, 95, 96, 97, 11, 12, 98, 99, 100, 101, 102, 103, 104, 105, 106, 107, 108, 109, 110, 111, 197, 198, 199, 200, 201, 202, 203, 204, 205, 206, 207, 208, 209, 210, 211, 212, 213, 214, 215, 216, 217, 218, 219, 220, 221, 222, 223, 224] (by decide +kernel) (by decide +kernel)
set_option maxRecDepth 20000 in
theorem gX5_ask_X5_judge : GoodIn wsX5_ask (wsV RX5 86 RX5 yX5_judge wsX5_judge) := goodIn_app (goodIn_of _ (by decide +kernel)) ggX5_ask_X5_judge
set_option maxRecDepth 20000 in
theorem ggX5_ask_X1_init : GoodIn wsX5_ask wsX1_init := goodIn_r _ [114, 115, 116, 117, 118, 119, 120, 69, 121, 122, 26, 79, 123, 124, 125, 126, 127, 128, 129, 130, 57, 131, 132, 133, 134, 135, 136, 137, 138, 139, 140, 141, 142, 143, 144, 145, 146, 147, 148, 149, 150, 151, 152, 28, 153, 154, 155, 156, 157, 158, 159, 160, 161, 162, 163, 164, 165, 166, 72, 167, 168, 169, 170, 171, 172, 173, 174, 175, 176, 177, 178, 179, 180, 181, 182, 183, 184, 185, 186, 187, 188, 189, 190, 191, 71, 73, 192, 193, 194, 195, 208, 209, 210, 211, 212, 213, 214, 215, 216, 217, 225, 226] (by decide +kernel) (by decide +kernel)
set_option maxRecDepth 20000 in
theorem gX5_ask_X1_init : GoodIn wsX5_ask (wsX1_init) := ggX5_ask_X1_init
set_option maxRecDepth 20000 in
theorem ggX5_ask_Jx4a65c_add_9ea2d : GoodIn wsX5_ask wsJx4a65c_add_9ea2d := goodIn_r _ [150, 151, 152, 57, 28, 153, 154, 155, 26, 156, 157, 158, 159, 160, 161, 162, 163, 164, 130, 165, 166, 72, 167, 168, 169, 170, 171, 172, 173, 174, 175, 176, 177, 178, 179, 180, 181, 182, 183, 184, 185, 186, 187, 188, 189, 190, 191, 71, 73, 192, 193, 194, 195, 215, 216, 217] (by decide +kernel) (by decide +kernel)
set_option maxRecDepth 20000 in
theorem gX5_ask_Jx4a65c_add_9ea2d : GoodIn wsX5_ask (wsV RX5 71 RJx4a65c yJx4a65c_add_9ea2d wsJx4a65c_add_9ea2d) := goodIn_app (goodIn_of _ (by decide +kernel)) ggX5_ask_Jx4a65c_add_9ea2d
theorem dX5_ask_0 : decode cX5_ask 0 = .ok (.iload_n 1, 1) := by decide +kernel
theorem dX5_ask_1 : decode cX5_ask 1 = .ok (.iload_n 2, 1) := by decide +kernel
theorem dX5_ask_2 : decode cX5_ask 2 = .ok (.invokestatic 75, 3) := by decide +kernel
theorem dX5_ask_5 : decode cX5_ask 5 = .ok (.ifCond .eq 18, 3) := by decide +kernel
theorem dX5_ask_8 : decode cX5_ask 8 = .ok (.iload_n 3, 1) := by decide +kernel
theorem dX5_ask_9 : decode cX5_ask 9 = .ok (.invokestatic 56, 3) := by decide +kernel
theorem dX5_ask_12 : decode cX5_ask 12 = .ok (.ifCond .eq 11, 3) := by decide +kernel
theorem dX5_ask_15 : decode cX5_ask 15 = .ok (.iload 4, 2) := by decide +kernel
theorem dX5_ask_17 : decode cX5_ask 17 = .ok (.invokestatic 83, 3) := by decide +kernel
theorem dX5_ask_20 : decode cX5_ask 20 = .ok (.ifCond .ne 5, 3) := by decide +kernel
theorem dX5_ask_23 : decode cX5_ask 23 = .ok (.iconst (-1), 1) := by decide +kernel
theorem dX5_ask_24 : decode cX5_ask 24 = .ok (.ireturn, 1) := by decide +kernel
theorem dX5_ask_25 : decode cX5_ask 25 = .ok (.iload 5, 2) := by decide +kernel
theorem dX5_ask_27 : decode cX5_ask 27 = .ok (.invokestatic 46, 3) := by decide +kernel
theorem dX5_ask_30 : decode cX5_ask 30 = .ok (.ifCond .eq 18, 3) := by decide +kernel
theorem dX5_ask_33 : decode cX5_ask 33 = .ok (.iload 6, 2) := by decide +kernel
theorem dX5_ask_35 : decode cX5_ask 35 = .ok (.invokestatic 46, 3) := by decide +kernel
theorem dX5_ask_38 : decode cX5_ask 38 = .ok (.ifCond .eq 10, 3) := by decide +kernel
theorem dX5_ask_41 : decode cX5_ask 41 = .ok (.iload 5, 2) := by decide +kernel
theorem dX5_ask_43 : decode cX5_ask 43 = .ok (.iload 6, 2) := by decide +kernel
theorem dX5_ask_45 : decode cX5_ask 45 = .ok (.if_icmp .le 5, 3) := by decide +kernel
theorem dX5_ask_48 : decode cX5_ask 48 = .ok (.iconst (-1), 1) := by decide +kernel
theorem dX5_ask_49 : decode cX5_ask 49 = .ok (.ireturn, 1) := by decide +kernel
theorem dX5_ask_50 : decode cX5_ask 50 = .ok (.aload_n 0, 1) := by decide +kernel
theorem dX5_ask_51 : decode cX5_ask 51 = .ok (.getfield 19, 3) := by decide +kernel
theorem dX5_ask_54 : decode cX5_ask 54 = .ok (.invokevirtual 67, 3) := by decide +kernel
theorem dX5_ask_57 : decode cX5_ask 57 = .ok (.bipush 30, 2) := by decide +kernel
theorem dX5_ask_59 : decode cX5_ask 59 = .ok (.if_icmp .lt 6, 3) := by decide +kernel
theorem dX5_ask_62 : decode cX5_ask 62 = .ok (.bipush (-3), 2) := by decide +kernel
theorem dX5_ask_64 : decode cX5_ask 64 = .ok (.ireturn, 1) := by decide +kernel
theorem dX5_ask_65 : decode cX5_ask 65 = .ok (.aload_n 0, 1) := by decide +kernel
theorem dX5_ask_66 : decode cX5_ask 66 = .ok (.iload_n 1, 1) := by decide +kernel
theorem dX5_ask_67 : decode cX5_ask 67 = .ok (.iload_n 2, 1) := by decide +kernel
theorem dX5_ask_68 : decode cX5_ask 68 = .ok (.iload 5, 2) := by decide +kernel
theorem dX5_ask_70 : decode cX5_ask 70 = .ok (.iload 6, 2) := by decide +kernel
theorem dX5_ask_72 : decode cX5_ask 72 = .ok (.invokevirtual 86, 3) := by decide +kernel
theorem dX5_ask_75 : decode cX5_ask 75 = .ok (.istore 7, 2) := by decide +kernel
theorem dX5_ask_77 : decode cX5_ask 77 = .ok (.iload 7, 2) := by decide +kernel
theorem dX5_ask_79 : decode cX5_ask 79 = .ok (.ifCond .eq 19, 3) := by decide +kernel
theorem dX5_ask_82 : decode cX5_ask 82 = .ok (.aload_n 0, 1) := by decide +kernel
theorem dX5_ask_83 : decode cX5_ask 83 = .ok (.dup, 1) := by decide +kernel
theorem dX5_ask_84 : decode cX5_ask 84 = .ok (.getfield 90, 3) := by decide +kernel
theorem dX5_ask_87 : decode cX5_ask 87 = .ok (.iconst 1, 1) := by decide +kernel
theorem dX5_ask_88 : decode cX5_ask 88 = .ok (.iadd, 1) := by decide +kernel
theorem dX5_ask_89 : decode cX5_ask 89 = .ok (.putfield 90, 3) := by decide +kernel
theorem dX5_ask_92 : decode cX5_ask 92 = .ok (.bipush (-10), 2) := by decide +kernel
theorem dX5_ask_94 : decode cX5_ask 94 = .ok (.iload 7, 2) := by decide +kernel
theorem dX5_ask_96 : decode cX5_ask 96 = .ok (.isub, 1) := by decide +kernel
theorem dX5_ask_97 : decode cX5_ask 97 = .ok (.ireturn, 1) := by decide +kernel
theorem dX5_ask_98 : decode cX5_ask 98 = .ok (.aload_n 0, 1) := by decide +kernel
theorem dX5_ask_99 : decode cX5_ask 99 = .ok (.getfield 19, 3) := by decide +kernel
theorem dX5_ask_102 : decode cX5_ask 102 = .ok (.new 93, 3) := by decide +kernel
theorem dX5_ask_105 : decode cX5_ask 105 = .ok (.dup, 1) := by decide +kernel
theorem dX5_ask_106 : decode cX5_ask 106 = .ok (.iload_n 1, 1) := by decide +kernel
theorem dX5_ask_107 : decode cX5_ask 107 = .ok (.iload_n 2, 1) := by decide +kernel
theorem dX5_ask_108 : decode cX5_ask 108 = .ok (.iload_n 3, 1) := by decide +kernel
theorem dX5_ask_109 : decode cX5_ask 109 = .ok (.iload 6, 2) := by decide +kernel
theorem dX5_ask_111 : decode cX5_ask 111 = .ok (.iload 4, 2) := by decide +kernel
theorem dX5_ask_113 : decode cX5_ask 113 = .ok (.invokespecial 95, 3) := by decide +kernel
theorem dX5_ask_116 : decode cX5_ask 116 = .ok (.invokevirtual 71, 3) := by decide +kernel
theorem dX5_ask_119 : decode cX5_ask 119 = .ok (.pop, 1) := by decide +kernel
theorem dX5_ask_120 : decode cX5_ask 120 = .ok (.aload_n 0, 1) := by decide +kernel
theorem dX5_ask_121 : decode cX5_ask 121 = .ok (.getfield 19, 3) := by decide +kernel
theorem dX5_ask_124 : decode cX5_ask 124 = .ok (.invokevirtual 67, 3) := by decide +kernel
theorem dX5_ask_127 : decode cX5_ask 127 = .ok (.iconst 1, 1) := by decide +kernel
theorem dX5_ask_128 : decode cX5_ask 128 = .ok (.isub, 1) := by decide +kernel
theorem dX5_ask_129 : decode cX5_ask 129 = .ok (.ireturn, 1) := by decide +kernel
set_option maxRecDepth 20000 in
theorem ggX5_event_X5_houseAt : GoodIn wsX5_event wsX5_houseAt := goodIn_r _ [7, 8, 9, 10, 11, 12, 13, 14, 15, 16, 17, 18, 19, 20, 21, 22, 23, 24, 25, 26, 27, 28, 29, 30, 31, 32, 137, 138, 139, 140, 141, 142, 143, 144, 145, 146, 147, 148, 149, 150] (by decide +kernel) (by decide +kernel)
set_option maxRecDepth 20000 in
theorem gX5_event_X5_houseAt : GoodIn wsX5_event (wsV RX5 96 RX5 yX5_houseAt wsX5_houseAt) := goodIn_app (goodIn_of _ (by decide +kernel)) ggX5_event_X5_houseAt
set_option maxRecDepth 20000 in
theorem ggX5_event_X5_isDay : GoodIn wsX5_event wsX5_isDay := goodIn_r _ [35, 36, 37, 6, 38] (by decide +kernel) (by decide +kernel)
set_option maxRecDepth 20000 in
theorem gX5_event_X5_isDay : GoodIn wsX5_event (va_wsS RX5 46 yX5_isDay wsX5_isDay) := goodIn_app (goodIn_of _ (by decide +kernel)) ggX5_event_X5_isDay
set_option maxRecDepth 20000 in
theorem ggX5_event_X5_isEvent : GoodIn wsX5_event wsX5_isEvent := goodIn_r _ [41, 36, 37, 6, 38] (by decide +kernel) (by decide +kernel)
set_option maxRecDepth 20000 in
theorem gX5_event_X5_isEvent : GoodIn wsX5_event (va_wsS RX5 100 yX5_isEvent wsX5_isEvent) := goodIn_app (goodIn_of _ (by decide +kernel)) ggX5_event_X5_isEvent
set_option maxRecDepth 20000 in
theorem ggX5_event_X1_mayBeTold : GoodIn wsX5_event wsX1_mayBeTold := goodIn_r _ [46, 47, 48, 49, 45, 50, 51, 52, 53, 54, 55, 11, 12, 13, 14, 15, 56, 17, 18, 19, 20, 21, 22, 23, 24, 25, 26, 27, 28, 29, 30, 31, 32, 130, 131, 132, 133, 134, 135, 136, 151, 152, 153, 154, 148, 149, 150] (by decide +kernel) (by decide +kernel)
set_option maxRecDepth 20000 in
theorem gX5_event_X1_mayBeTold : GoodIn wsX5_event (wsV RX5 106 RX1 yX1_mayBeTold wsX1_mayBeTold) := goodIn_app (goodIn_of _ (by decide +kernel)) ggX5_event_X1_mayBeTold
set_option maxRecDepth 20000 in
theorem ggX5_event_Jx4a65c_size_8abf5 : GoodIn wsX5_event wsJx4a65c_size_8abf5 := goodIn_r _ [14, 15, 148, 149, 150] (by decide +kernel) (by decide +kernel)
set_option maxRecDepth 20000 in
theorem gX5_event_Jx4a65c_size_8abf5 : GoodIn wsX5_event (wsV RX5 67 RJx4a65c yJx4a65c_size_8abf5 wsJx4a65c_size_8abf5) := goodIn_app (goodIn_of _ (by decide +kernel)) ggX5_event_Jx4a65c_size_8abf5
set_option maxRecDepth 20000 in
theorem ggX5_event_X1_tell : GoodIn wsX5_event wsX1_tell := goodIn_r _ [60, 51, 61, 62, 63, 64, 65, 66, 67, 68, 69, 70, 71, 72, 73, 74, 75, 76, 77, 78, 79, 80, 81, 82, 13, 83, 84, 85, 32, 15, 86, 87, 88, 89, 90, 91, 92, 93, 94, 95, 96, 97, 98, 99, 100, 101, 102, 103, 104, 105, 106, 107, 108, 109, 110, 111, 112, 113, 114, 115, 116, 117, 118, 119, 120, 121, 122, 123, 124, 125, 126, 127, 128, 129, 47, 48, 49, 45, 50, 52, 53, 54, 55, 11, 12, 14, 56, 17, 18, 19, 20, 21, 22, 23, 24, 25, 26, 27, 28, 29, 30, 31, 130, 131, 132, 133, 134, 135, 136, 151, 152, 153, 154, 148, 149, 150] (by decide +kernel) (by decide +kernel)
set_option maxRecDepth 20000 in
theorem gX5_event_X1_tell : GoodIn wsX5_event (wsV RX5 112 RX1 yX1_tell wsX1_tell) := goodIn_app (goodIn_of _ (by decide +kernel)) ggX5_event_X1_tell
theorem dX5_event_0 : decode cX5_event 0 = .ok (.aload_n 0, 1) := by decide +kernel
theorem dX5_event_1 : decode cX5_event 1 = .ok (.iload_n 1, 1) := by decide +kernel
theorem dX5_event_2 : decode cX5_event 2 = .ok (.invokevirtual 96, 3) := by decide +kernel
theorem dX5_event_5 : decode cX5_event 5 = .ok (.astore 5, 2) := by decide +kernel
theorem dX5_event_7 : decode cX5_event 7 = .ok (.aload 5, 2) := by decide +kernel
theorem dX5_event_9 : decode cX5_event 9 = .ok (.ifnull 19, 3) := by decide +kernel
theorem dX5_event_12 : decode cX5_event 12 = .ok (.iload_n 2, 1) := by decide +kernel
theorem dX5_event_13 : decode cX5_event 13 = .ok (.invokestatic 46, 3) := by decide +kernel
theorem dX5_event_16 : decode cX5_event 16 = .ok (.ifCond .eq 12, 3) := by decide +kernel
theorem dX5_event_19 : decode cX5_event 19 = .ok (.iload_n 3, 1) := by decide +kernel
theorem dX5_event_20 : decode cX5_event 20 = .ok (.iload 4, 2) := by decide +kernel
theorem dX5_event_22 : decode cX5_event 22 = .ok (.invokestatic 100, 3) := by decide +kernel
theorem dX5_event_25 : decode cX5_event 25 = .ok (.ifCond .ne 5, 3) := by decide +kernel
theorem dX5_event_28 : decode cX5_event 28 = .ok (.iconst (-1), 1) := by decide +kernel
theorem dX5_event_29 : decode cX5_event 29 = .ok (.ireturn, 1) := by decide +kernel
