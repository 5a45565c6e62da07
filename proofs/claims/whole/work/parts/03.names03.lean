theorem dX3_streetFact_104 : decode cX3_streetFact 104 = .ok (.iload_n 1, 1) := by decide +kernel
theorem dX3_streetFact_105 : decode cX3_streetFact 105 = .ok (.invokevirtual 167, 3) := by decide +kernel
theorem dX3_streetFact_108 : decode cX3_streetFact 108 = .ok (.ireturn, 1) := by decide +kernel
set_option maxRecDepth 20000 in
theorem ggX3_standingOfAll_X3_standingIn : GoodIn wsX3_standingOfAll wsX3_standingIn := goodIn_r _ [6, 7, 8, 9, 10, 11, 12, 13, 14, 15, 16, 17, 18, 19, 20, 21, 22, 23, 24, 25, 26, 27, 28, 29, 30, 31, 32] (by decide +kernel) (by decide +kernel)
set_option maxRecDepth 20000 in
theorem gX3_standingOfAll_X3_standingIn : GoodIn wsX3_standingOfAll (wsV RX3 83 RX3 yX3_standingIn wsX3_standingIn) := goodIn_app (goodIn_of _ (by decide +kernel)) ggX3_standingOfAll_X3_standingIn
theorem dX3_standingOfAll_0 : decode cX3_standingOfAll 0 = .ok (.iconst 0, 1) := by decide +kernel
theorem dX3_standingOfAll_1 : decode cX3_standingOfAll 1 = .ok (.istore_n 1, 1) := by decide +kernel
theorem dX3_standingOfAll_2 : decode cX3_standingOfAll 2 = .ok (.iconst 0, 1) := by decide +kernel
theorem dX3_standingOfAll_3 : decode cX3_standingOfAll 3 = .ok (.istore_n 2, 1) := by decide +kernel
theorem dX3_standingOfAll_4 : decode cX3_standingOfAll 4 = .ok (.iload_n 2, 1) := by decide +kernel
theorem dX3_standingOfAll_5 : decode cX3_standingOfAll 5 = .ok (.aload_n 0, 1) := by decide +kernel
theorem dX3_standingOfAll_6 : decode cX3_standingOfAll 6 = .ok (.getfield 25, 3) := by decide +kernel
theorem dX3_standingOfAll_9 : decode cX3_standingOfAll 9 = .ok (.if_icmp .ge 17, 3) := by decide +kernel
theorem dX3_standingOfAll_12 : decode cX3_standingOfAll 12 = .ok (.iload_n 1, 1) := by decide +kernel
theorem dX3_standingOfAll_13 : decode cX3_standingOfAll 13 = .ok (.aload_n 0, 1) := by decide +kernel
theorem dX3_standingOfAll_14 : decode cX3_standingOfAll 14 = .ok (.iload_n 2, 1) := by decide +kernel
theorem dX3_standingOfAll_15 : decode cX3_standingOfAll 15 = .ok (.invokevirtual 83, 3) := by decide +kernel
theorem dX3_standingOfAll_18 : decode cX3_standingOfAll 18 = .ok (.iadd, 1) := by decide +kernel
theorem dX3_standingOfAll_19 : decode cX3_standingOfAll 19 = .ok (.istore_n 1, 1) := by decide +kernel
theorem dX3_standingOfAll_20 : decode cX3_standingOfAll 20 = .ok (.iinc 2 1, 3) := by decide +kernel
theorem dX3_standingOfAll_23 : decode cX3_standingOfAll 23 = .ok (.goto (-19), 3) := by decide +kernel
theorem dX3_standingOfAll_26 : decode cX3_standingOfAll 26 = .ok (.iload_n 1, 1) := by decide +kernel
theorem dX3_standingOfAll_27 : decode cX3_standingOfAll 27 = .ok (.ireturn, 1) := by decide +kernel
theorem dX3_coinsOfAll_0 : decode cX3_coinsOfAll 0 = .ok (.iconst 0, 1) := by decide +kernel
theorem dX3_coinsOfAll_1 : decode cX3_coinsOfAll 1 = .ok (.istore_n 1, 1) := by decide +kernel
theorem dX3_coinsOfAll_2 : decode cX3_coinsOfAll 2 = .ok (.iconst 0, 1) := by decide +kernel
theorem dX3_coinsOfAll_3 : decode cX3_coinsOfAll 3 = .ok (.istore_n 2, 1) := by decide +kernel
theorem dX3_coinsOfAll_4 : decode cX3_coinsOfAll 4 = .ok (.iload_n 2, 1) := by decide +kernel
theorem dX3_coinsOfAll_5 : decode cX3_coinsOfAll 5 = .ok (.aload_n 0, 1) := by decide +kernel
theorem dX3_coinsOfAll_6 : decode cX3_coinsOfAll 6 = .ok (.getfield 29, 3) := by decide +kernel
theorem dX3_coinsOfAll_9 : decode cX3_coinsOfAll 9 = .ok (.if_icmp .ge 21, 3) := by decide +kernel
theorem dX3_coinsOfAll_12 : decode cX3_coinsOfAll 12 = .ok (.iload_n 1, 1) := by decide +kernel
theorem dX3_coinsOfAll_13 : decode cX3_coinsOfAll 13 = .ok (.aload_n 0, 1) := by decide +kernel
theorem dX3_coinsOfAll_14 : decode cX3_coinsOfAll 14 = .ok (.getfield 19, 3) := by decide +kernel
theorem dX3_coinsOfAll_17 : decode cX3_coinsOfAll 17 = .ok (.iload_n 2, 1) := by decide +kernel
theorem dX3_coinsOfAll_18 : decode cX3_coinsOfAll 18 = .ok (.aaload, 1) := by decide +kernel
theorem dX3_coinsOfAll_19 : decode cX3_coinsOfAll 19 = .ok (.getfield 60, 3) := by decide +kernel
theorem dX3_coinsOfAll_22 : decode cX3_coinsOfAll 22 = .ok (.iadd, 1) := by decide +kernel
theorem dX3_coinsOfAll_23 : decode cX3_coinsOfAll 23 = .ok (.istore_n 1, 1) := by decide +kernel
theorem dX3_coinsOfAll_24 : decode cX3_coinsOfAll 24 = .ok (.iinc 2 1, 3) := by decide +kernel
theorem dX3_coinsOfAll_27 : decode cX3_coinsOfAll 27 = .ok (.goto (-23), 3) := by decide +kernel
theorem dX3_coinsOfAll_30 : decode cX3_coinsOfAll 30 = .ok (.iload_n 1, 1) := by decide +kernel
theorem dX3_coinsOfAll_31 : decode cX3_coinsOfAll 31 = .ok (.ireturn, 1) := by decide +kernel
set_option maxRecDepth 20000 in
theorem ggX3_complaintsOfAll_X3_complaintsIn : GoodIn wsX3_complaintsOfAll wsX3_complaintsIn := goodIn_r _ [6, 7, 8, 9, 10, 11, 12, 13, 14, 15, 16, 17, 18, 19, 20, 21, 22, 23, 24, 25, 26] (by decide +kernel) (by decide +kernel)
set_option maxRecDepth 20000 in
theorem gX3_complaintsOfAll_X3_complaintsIn : GoodIn wsX3_complaintsOfAll (wsV RX3 147 RX3 yX3_complaintsIn wsX3_complaintsIn) := goodIn_app (goodIn_of _ (by decide +kernel)) ggX3_complaintsOfAll_X3_complaintsIn
theorem dX3_complaintsOfAll_0 : decode cX3_complaintsOfAll 0 = .ok (.iconst 0, 1) := by decide +kernel
theorem dX3_complaintsOfAll_1 : decode cX3_complaintsOfAll 1 = .ok (.istore_n 1, 1) := by decide +kernel
theorem dX3_complaintsOfAll_2 : decode cX3_complaintsOfAll 2 = .ok (.iconst 0, 1) := by decide +kernel
theorem dX3_complaintsOfAll_3 : decode cX3_complaintsOfAll 3 = .ok (.istore_n 2, 1) := by decide +kernel
theorem dX3_complaintsOfAll_4 : decode cX3_complaintsOfAll 4 = .ok (.iload_n 2, 1) := by decide +kernel
theorem dX3_complaintsOfAll_5 : decode cX3_complaintsOfAll 5 = .ok (.aload_n 0, 1) := by decide +kernel
theorem dX3_complaintsOfAll_6 : decode cX3_complaintsOfAll 6 = .ok (.getfield 25, 3) := by decide +kernel
theorem dX3_complaintsOfAll_9 : decode cX3_complaintsOfAll 9 = .ok (.if_icmp .ge 17, 3) := by decide +kernel
theorem dX3_complaintsOfAll_12 : decode cX3_complaintsOfAll 12 = .ok (.iload_n 1, 1) := by decide +kernel
theorem dX3_complaintsOfAll_13 : decode cX3_complaintsOfAll 13 = .ok (.aload_n 0, 1) := by decide +kernel
theorem dX3_complaintsOfAll_14 : decode cX3_complaintsOfAll 14 = .ok (.iload_n 2, 1) := by decide +kernel
theorem dX3_complaintsOfAll_15 : decode cX3_complaintsOfAll 15 = .ok (.invokevirtual 147, 3) := by decide +kernel
theorem dX3_complaintsOfAll_18 : decode cX3_complaintsOfAll 18 = .ok (.iadd, 1) := by decide +kernel
theorem dX3_complaintsOfAll_19 : decode cX3_complaintsOfAll 19 = .ok (.istore_n 1, 1) := by decide +kernel
theorem dX3_complaintsOfAll_20 : decode cX3_complaintsOfAll 20 = .ok (.iinc 2 1, 3) := by decide +kernel
theorem dX3_complaintsOfAll_23 : decode cX3_complaintsOfAll 23 = .ok (.goto (-19), 3) := by decide +kernel
theorem dX3_complaintsOfAll_26 : decode cX3_complaintsOfAll 26 = .ok (.iload_n 1, 1) := by decide +kernel
theorem dX3_complaintsOfAll_27 : decode cX3_complaintsOfAll 27 = .ok (.ireturn, 1) := by decide +kernel
set_option maxRecDepth 20000 in
theorem ggX3_banishmentsOfAll_X0_banishedStreets : GoodIn wsX3_banishmentsOfAll wsX0_banishedStreets := goodIn_r _ [7, 8, 14, 15, 16, 17, 18, 19, 20, 21, 22, 23, 24, 25] (by decide +kernel) (by decide +kernel)
set_option maxRecDepth 20000 in
theorem gX3_banishmentsOfAll_X0_banishedStreets : GoodIn wsX3_banishmentsOfAll (wsV RX3 170 RX0 yX0_banishedStreets wsX0_banishedStreets) := goodIn_app (goodIn_of _ (by decide +kernel)) ggX3_banishmentsOfAll_X0_banishedStreets
theorem dX3_banishmentsOfAll_0 : decode cX3_banishmentsOfAll 0 = .ok (.iconst 0, 1) := by decide +kernel
theorem dX3_banishmentsOfAll_1 : decode cX3_banishmentsOfAll 1 = .ok (.istore_n 1, 1) := by decide +kernel
theorem dX3_banishmentsOfAll_2 : decode cX3_banishmentsOfAll 2 = .ok (.iconst 0, 1) := by decide +kernel
theorem dX3_banishmentsOfAll_3 : decode cX3_banishmentsOfAll 3 = .ok (.istore_n 2, 1) := by decide +kernel
theorem dX3_banishmentsOfAll_4 : decode cX3_banishmentsOfAll 4 = .ok (.iload_n 2, 1) := by decide +kernel
theorem dX3_banishmentsOfAll_5 : decode cX3_banishmentsOfAll 5 = .ok (.aload_n 0, 1) := by decide +kernel
theorem dX3_banishmentsOfAll_6 : decode cX3_banishmentsOfAll 6 = .ok (.getfield 29, 3) := by decide +kernel
theorem dX3_banishmentsOfAll_9 : decode cX3_banishmentsOfAll 9 = .ok (.if_icmp .ge 21, 3) := by decide +kernel
theorem dX3_banishmentsOfAll_12 : decode cX3_banishmentsOfAll 12 = .ok (.iload_n 1, 1) := by decide +kernel
theorem dX3_banishmentsOfAll_13 : decode cX3_banishmentsOfAll 13 = .ok (.aload_n 0, 1) := by decide +kernel
theorem dX3_banishmentsOfAll_14 : decode cX3_banishmentsOfAll 14 = .ok (.getfield 19, 3) := by decide +kernel
theorem dX3_banishmentsOfAll_17 : decode cX3_banishmentsOfAll 17 = .ok (.iload_n 2, 1) := by decide +kernel
theorem dX3_banishmentsOfAll_18 : decode cX3_banishmentsOfAll 18 = .ok (.aaload, 1) := by decide +kernel
theorem dX3_banishmentsOfAll_19 : decode cX3_banishmentsOfAll 19 = .ok (.invokevirtual 170, 3) := by decide +kernel
theorem dX3_banishmentsOfAll_22 : decode cX3_banishmentsOfAll 22 = .ok (.iadd, 1) := by decide +kernel
theorem dX3_banishmentsOfAll_23 : decode cX3_banishmentsOfAll 23 = .ok (.istore_n 1, 1) := by decide +kernel
theorem dX3_banishmentsOfAll_24 : decode cX3_banishmentsOfAll 24 = .ok (.iinc 2 1, 3) := by decide +kernel
theorem dX3_banishmentsOfAll_27 : decode cX3_banishmentsOfAll 27 = .ok (.goto (-23), 3) := by decide +kernel
theorem dX3_banishmentsOfAll_30 : decode cX3_banishmentsOfAll 30 = .ok (.iload_n 1, 1) := by decide +kernel
theorem dX3_banishmentsOfAll_31 : decode cX3_banishmentsOfAll 31 = .ok (.ireturn, 1) := by decide +kernel
set_option maxRecDepth 20000 in
theorem ggX3_countOf_X3_standingOfAll : GoodIn wsX3_countOf wsX3_standingOfAll := goodIn_r _ [8, 2, 9, 10, 11, 7, 12, 3, 13, 14, 15, 16, 17, 18, 19, 20, 44, 45, 46, 47, 48, 49, 50, 51, 52, 53, 54, 55, 56, 57, 58, 59, 60] (by decide +kernel) (by decide +kernel)
set_option maxRecDepth 20000 in
theorem gX3_countOf_X3_standingOfAll : GoodIn wsX3_countOf (wsV RX3 173 RX3 yX3_standingOfAll wsX3_standingOfAll) := goodIn_app (goodIn_of _ (by decide +kernel)) ggX3_countOf_X3_standingOfAll
set_option maxRecDepth 20000 in
theorem ggX3_countOf_X3_coinsOfAll : GoodIn wsX3_countOf wsX3_coinsOfAll := goodIn_r _ [24, 3, 13, 25, 44, 45, 46, 47, 48, 49, 50, 51, 52, 53, 54, 55, 56, 57, 58, 59, 60] (by decide +kernel) (by decide +kernel)
set_option maxRecDepth 20000 in
theorem gX3_countOf_X3_coinsOfAll : GoodIn wsX3_countOf (wsV RX3 176 RX3 yX3_coinsOfAll wsX3_coinsOfAll) := goodIn_app (goodIn_of _ (by decide +kernel)) ggX3_countOf_X3_coinsOfAll
set_option maxRecDepth 20000 in
theorem ggX3_countOf_X3_complaintsOfAll : GoodIn wsX3_countOf wsX3_complaintsOfAll := goodIn_r _ [29, 2, 30, 31, 32, 7, 33, 3, 13, 34, 44, 45, 46, 47, 48, 49, 50, 51, 52, 53, 54, 55, 56, 57, 58, 59, 60] (by decide +kernel) (by decide +kernel)
set_option maxRecDepth 20000 in
theorem gX3_countOf_X3_complaintsOfAll : GoodIn wsX3_countOf (wsV RX3 179 RX3 yX3_complaintsOfAll wsX3_complaintsOfAll) := goodIn_app (goodIn_of _ (by decide +kernel)) ggX3_countOf_X3_complaintsOfAll
set_option maxRecDepth 20000 in
theorem ggX3_countOf_X3_banishmentsOfAll : GoodIn wsX3_countOf wsX3_banishmentsOfAll := goodIn_r _ [38, 3, 13, 39, 40, 41, 17, 42, 43, 44, 45, 46, 47, 48, 49, 50, 51, 52, 53, 54, 55, 56, 57, 58, 59, 60] (by decide +kernel) (by decide +kernel)
set_option maxRecDepth 20000 in
theorem gX3_countOf_X3_banishmentsOfAll : GoodIn wsX3_countOf (wsV RX3 182 RX3 yX3_banishmentsOfAll wsX3_banishmentsOfAll) := goodIn_app (goodIn_of _ (by decide +kernel)) ggX3_countOf_X3_banishmentsOfAll
theorem dX3_countOf_0 : decode cX3_countOf 0 = .ok (.iload_n 1, 1) := by decide +kernel
theorem dX3_countOf_1 : decode cX3_countOf 1 = .ok (.tableswitch 69 0 5 #[39, 44, 49, 54, 59, 64], 39) := by decide +kernel
theorem dX3_countOf_40 : decode cX3_countOf 40 = .ok (.aload_n 0, 1) := by decide +kernel
theorem dX3_countOf_41 : decode cX3_countOf 41 = .ok (.getfield 32, 3) := by decide +kernel
theorem dX3_countOf_44 : decode cX3_countOf 44 = .ok (.ireturn, 1) := by decide +kernel
theorem dX3_countOf_45 : decode cX3_countOf 45 = .ok (.aload_n 0, 1) := by decide +kernel
theorem dX3_countOf_46 : decode cX3_countOf 46 = .ok (.getfield 25, 3) := by decide +kernel
theorem dX3_countOf_49 : decode cX3_countOf 49 = .ok (.ireturn, 1) := by decide +kernel
theorem dX3_countOf_50 : decode cX3_countOf 50 = .ok (.aload_n 0, 1) := by decide +kernel
theorem dX3_countOf_51 : decode cX3_countOf 51 = .ok (.getfield 29, 3) := by decide +kernel
theorem dX3_countOf_54 : decode cX3_countOf 54 = .ok (.ireturn, 1) := by decide +kernel
theorem dX3_countOf_55 : decode cX3_countOf 55 = .ok (.aload_n 0, 1) := by decide +kernel
theorem dX3_countOf_56 : decode cX3_countOf 56 = .ok (.invokevirtual 173, 3) := by decide +kernel
theorem dX3_countOf_59 : decode cX3_countOf 59 = .ok (.ireturn, 1) := by decide +kernel
theorem dX3_countOf_60 : decode cX3_countOf 60 = .ok (.aload_n 0, 1) := by decide +kernel
theorem dX3_countOf_61 : decode cX3_countOf 61 = .ok (.invokevirtual 176, 3) := by decide +kernel
theorem dX3_countOf_64 : decode cX3_countOf 64 = .ok (.ireturn, 1) := by decide +kernel
theorem dX3_countOf_65 : decode cX3_countOf 65 = .ok (.aload_n 0, 1) := by decide +kernel
theorem dX3_countOf_66 : decode cX3_countOf 66 = .ok (.invokevirtual 179, 3) := by decide +kernel
theorem dX3_countOf_69 : decode cX3_countOf 69 = .ok (.ireturn, 1) := by decide +kernel
theorem dX3_countOf_70 : decode cX3_countOf 70 = .ok (.aload_n 0, 1) := by decide +kernel
theorem dX3_countOf_71 : decode cX3_countOf 71 = .ok (.invokevirtual 182, 3) := by decide +kernel
theorem dX3_countOf_74 : decode cX3_countOf 74 = .ok (.ireturn, 1) := by decide +kernel
set_option maxRecDepth 20000 in
theorem ggX4_init_X3_init : GoodIn wsX4_init wsX3_init := goodIn_r _ [15, 16, 2, 3, 17, 18, 19, 20, 21, 22, 23, 24, 25, 26, 27, 28, 29, 30, 31, 32, 33, 34, 35, 36, 37, 38, 39, 40, 41, 42, 43, 49, 50, 51, 52, 53, 59, 60, 61, 62, 63, 64, 65, 66, 67, 68, 69, 70, 71, 72, 73, 74, 75, 76] (by decide +kernel) (by decide +kernel)
set_option maxRecDepth 20000 in
theorem gX4_init_X3_init : GoodIn wsX4_init (wsX3_init) := ggX4_init_X3_init
set_option maxRecDepth 20000 in
theorem ggX4_init_X1_init : GoodIn wsX4_init wsX1_init := goodIn_r _ [45, 46, 2, 3, 47, 48, 57, 58] (by decide +kernel) (by decide +kernel)
set_option maxRecDepth 20000 in
theorem gX4_init_X1_init_n21 : GoodIn wsX4_init (wsX1_init) := ggX4_init_X1_init
theorem dX4_init_0 : decode cX4_init 0 = .ok (.aload_n 0, 1) := by decide +kernel
theorem dX4_init_1 : decode cX4_init 1 = .ok (.invokespecial 1, 3) := by decide +kernel
theorem dX4_init_4 : decode cX4_init 4 = .ok (.aload_n 0, 1) := by decide +kernel
theorem dX4_init_5 : decode cX4_init 5 = .ok (.new 7, 3) := by decide +kernel
theorem dX4_init_8 : decode cX4_init 8 = .ok (.dup, 1) := by decide +kernel
theorem dX4_init_9 : decode cX4_init 9 = .ok (.invokespecial 9, 3) := by decide +kernel
theorem dX4_init_12 : decode cX4_init 12 = .ok (.putfield 10, 3) := by decide +kernel
theorem dX4_init_15 : decode cX4_init 15 = .ok (.aload_n 0, 1) := by decide +kernel
theorem dX4_init_16 : decode cX4_init 16 = .ok (.new 7, 3) := by decide +kernel
theorem dX4_init_19 : decode cX4_init 19 = .ok (.dup, 1) := by decide +kernel
theorem dX4_init_20 : decode cX4_init 20 = .ok (.invokespecial 9, 3) := by decide +kernel
theorem dX4_init_23 : decode cX4_init 23 = .ok (.putfield 16, 3) := by decide +kernel
theorem dX4_init_26 : decode cX4_init 26 = .ok (.aload_n 0, 1) := by decide +kernel
theorem dX4_init_27 : decode cX4_init 27 = .ok (.new 19, 3) := by decide +kernel
theorem dX4_init_30 : decode cX4_init 30 = .ok (.dup, 1) := by decide +kernel
theorem dX4_init_31 : decode cX4_init 31 = .ok (.invokespecial 21, 3) := by decide +kernel
theorem dX4_init_34 : decode cX4_init 34 = .ok (.putfield 22, 3) := by decide +kernel
theorem dX4_init_37 : decode cX4_init 37 = .ok (.return_, 1) := by decide +kernel
set_option maxRecDepth 20000 in
theorem ggX4_build_X4_checkRange : GoodIn wsX4_build wsX4_checkRange := goodIn_ca (goodIn_r _ [8, 9, 10] (by decide +kernel) (by decide +kernel)) (goodIn_sub (fun _ h => List.mem_cons_of_mem _ (List.mem_append_right _ h)) (by decide +kernel))
set_option maxRecDepth 20000 in
theorem gX4_build_X4_checkRange : GoodIn wsX4_build (va_wsS RX4 26 yX4_checkRange wsX4_checkRange) := goodIn_app (goodIn_of _ (by decide +kernel)) ggX4_build_X4_checkRange
set_option maxRecDepth 20000 in
theorem ggX4_build_X3_newStreet : GoodIn wsX4_build wsX3_newStreet := goodIn_r _ [15, 16, 17, 18, 22, 23, 24, 25, 26, 27, 28, 29, 30, 31, 32] (by decide +kernel) (by decide +kernel)
set_option maxRecDepth 20000 in
theorem gX4_build_X3_newStreet : GoodIn wsX4_build (wsV RX4 41 RX3 yX3_newStreet wsX3_newStreet) := goodIn_app (goodIn_of _ (by decide +kernel)) ggX4_build_X3_newStreet
theorem dX4_build_0 : decode cX4_build 0 = .ok (.iload_n 1, 1) := by decide +kernel
theorem dX4_build_1 : decode cX4_build 1 = .ok (.iconst 3, 1) := by decide +kernel
theorem dX4_build_2 : decode cX4_build 2 = .ok (.bipush 20, 2) := by decide +kernel
theorem dX4_build_4 : decode cX4_build 4 = .ok (.invokestatic 26, 3) := by decide +kernel
theorem dX4_build_7 : decode cX4_build 7 = .ok (.aload_n 0, 1) := by decide +kernel
theorem dX4_build_8 : decode cX4_build 8 = .ok (.getfield 10, 3) := by decide +kernel
theorem dX4_build_11 : decode cX4_build 11 = .ok (.getfield 30, 3) := by decide +kernel
theorem dX4_build_14 : decode cX4_build 14 = .ok (.bipush 6, 2) := by decide +kernel
theorem dX4_build_16 : decode cX4_build 16 = .ok (.if_icmp .lt 13, 3) := by decide +kernel
theorem dX4_build_19 : decode cX4_build 19 = .ok (.new 34, 3) := by decide +kernel
theorem dX4_build_22 : decode cX4_build 22 = .ok (.dup, 1) := by decide +kernel
theorem dX4_build_23 : decode cX4_build 23 = .ok (.ldc 36, 2) := by decide +kernel
theorem dX4_build_25 : decode cX4_build 25 = .ok (.invokespecial 38, 3) := by decide +kernel
theorem dX4_build_28 : decode cX4_build 28 = .ok (.athrow, 1) := by decide +kernel
theorem dX4_build_29 : decode cX4_build 29 = .ok (.aload_n 0, 1) := by decide +kernel
theorem dX4_build_30 : decode cX4_build 30 = .ok (.getfield 10, 3) := by decide +kernel
theorem dX4_build_33 : decode cX4_build 33 = .ok (.iload_n 1, 1) := by decide +kernel
theorem dX4_build_34 : decode cX4_build 34 = .ok (.invokevirtual 41, 3) := by decide +kernel
theorem dX4_build_37 : decode cX4_build 37 = .ok (.ireturn, 1) := by decide +kernel
set_option maxRecDepth 20000 in
theorem ggX4_setPassers_X4_checkStreet : GoodIn wsX4_setPassers wsX4_checkStreet := goodIn_ca (goodIn_r _ [8, 1, 9, 10, 11, 7, 12, 13, 14, 20, 21, 22, 23, 24, 25, 26, 27] (by decide +kernel) (by decide +kernel)) (goodIn_sub (fun _ h => List.mem_cons_of_mem _ (List.mem_append_left _ (List.mem_append_right _ h))) (by decide +kernel))
set_option maxRecDepth 20000 in
theorem gX4_setPassers_X4_checkStreet : GoodIn wsX4_setPassers (wsV RX4 45 RX4 yX4_checkStreet wsX4_checkStreet) := goodIn_app (goodIn_of _ (by decide +kernel)) ggX4_setPassers_X4_checkStreet
set_option maxRecDepth 20000 in
theorem ggX4_setPassers_X4_checkIndex : GoodIn wsX4_setPassers wsX4_checkIndex := goodIn_ca (goodIn_r _ [12, 13, 14] (by decide +kernel) (by decide +kernel)) (goodIn_sub (fun _ h => List.mem_cons_of_mem _ (List.mem_append_left _ (List.mem_append_right _ h))) (by decide +kernel))
set_option maxRecDepth 20000 in
theorem gX4_setPassers_X4_checkIndex : GoodIn wsX4_setPassers (va_wsS RX4 49 yX4_checkIndex wsX4_checkIndex) := goodIn_app (goodIn_of _ (by decide +kernel)) ggX4_setPassers_X4_checkIndex
set_option maxRecDepth 20000 in
theorem ggX4_setPassers_X4_checkRange : GoodIn wsX4_setPassers wsX4_checkRange := goodIn_ca (goodIn_r _ [17, 18, 19] (by decide +kernel) (by decide +kernel)) (goodIn_sub (fun _ h => List.mem_cons_of_mem _ (List.mem_append_right _ h)) (by decide +kernel))
set_option maxRecDepth 20000 in
theorem gX4_setPassers_X4_checkRange : GoodIn wsX4_setPassers (va_wsS RX4 26 yX4_checkRange wsX4_checkRange) := goodIn_app (goodIn_of _ (by decide +kernel)) ggX4_setPassers_X4_checkRange
theorem dX4_setPassers_0 : decode cX4_setPassers 0 = .ok (.aload_n 0, 1) := by decide +kernel
theorem dX4_setPassers_1 : decode cX4_setPassers 1 = .ok (.iload_n 1, 1) := by decide +kernel
theorem dX4_setPassers_2 : decode cX4_setPassers 2 = .ok (.invokevirtual 45, 3) := by decide +kernel
theorem dX4_setPassers_5 : decode cX4_setPassers 5 = .ok (.iload_n 2, 1) := by decide +kernel
theorem dX4_setPassers_6 : decode cX4_setPassers 6 = .ok (.bipush 24, 2) := by decide +kernel
theorem dX4_setPassers_8 : decode cX4_setPassers 8 = .ok (.invokestatic 49, 3) := by decide +kernel
theorem dX4_setPassers_11 : decode cX4_setPassers 11 = .ok (.iload_n 3, 1) := by decide +kernel
theorem dX4_setPassers_12 : decode cX4_setPassers 12 = .ok (.iconst 0, 1) := by decide +kernel
theorem dX4_setPassers_13 : decode cX4_setPassers 13 = .ok (.bipush 99, 2) := by decide +kernel
theorem dX4_setPassers_15 : decode cX4_setPassers 15 = .ok (.invokestatic 26, 3) := by decide +kernel
theorem dX4_setPassers_18 : decode cX4_setPassers 18 = .ok (.aload_n 0, 1) := by decide +kernel
theorem dX4_setPassers_19 : decode cX4_setPassers 19 = .ok (.getfield 10, 3) := by decide +kernel
theorem dX4_setPassers_22 : decode cX4_setPassers 22 = .ok (.getfield 53, 3) := by decide +kernel
theorem dX4_setPassers_25 : decode cX4_setPassers 25 = .ok (.iload_n 1, 1) := by decide +kernel
theorem dX4_setPassers_26 : decode cX4_setPassers 26 = .ok (.aaload, 1) := by decide +kernel
theorem dX4_setPassers_27 : decode cX4_setPassers 27 = .ok (.getfield 57, 3) := by decide +kernel
theorem dX4_setPassers_30 : decode cX4_setPassers 30 = .ok (.astore 4, 2) := by decide +kernel
theorem dX4_setPassers_32 : decode cX4_setPassers 32 = .ok (.aload 4, 2) := by decide +kernel
theorem dX4_setPassers_34 : decode cX4_setPassers 34 = .ok (.iload_n 2, 1) := by decide +kernel
theorem dX4_setPassers_35 : decode cX4_setPassers 35 = .ok (.iaload, 1) := by decide +kernel
theorem dX4_setPassers_36 : decode cX4_setPassers 36 = .ok (.istore 5, 2) := by decide +kernel
theorem dX4_setPassers_38 : decode cX4_setPassers 38 = .ok (.aload 4, 2) := by decide +kernel
theorem dX4_setPassers_40 : decode cX4_setPassers 40 = .ok (.iload_n 2, 1) := by decide +kernel
theorem dX4_setPassers_41 : decode cX4_setPassers 41 = .ok (.iload_n 3, 1) := by decide +kernel
theorem dX4_setPassers_42 : decode cX4_setPassers 42 = .ok (.iastore, 1) := by decide +kernel
theorem dX4_setPassers_43 : decode cX4_setPassers 43 = .ok (.iload 5, 2) := by decide +kernel
theorem dX4_setPassers_45 : decode cX4_setPassers 45 = .ok (.ireturn, 1) := by decide +kernel
set_option maxRecDepth 20000 in
theorem ggX4_setTaste_X4_checkStreet : GoodIn wsX4_setTaste wsX4_checkStreet := goodIn_ca (goodIn_r _ [8, 1, 9, 10, 11, 7, 12, 13, 14, 20, 21, 22, 23, 24, 25, 26, 27] (by decide +kernel) (by decide +kernel)) (goodIn_sub (fun _ h => List.mem_cons_of_mem _ (List.mem_append_left _ (List.mem_append_right _ h))) (by decide +kernel))
set_option maxRecDepth 20000 in
theorem gX4_setTaste_X4_checkStreet : GoodIn wsX4_setTaste (wsV RX4 45 RX4 yX4_checkStreet wsX4_checkStreet) := goodIn_app (goodIn_of _ (by decide +kernel)) ggX4_setTaste_X4_checkStreet
set_option maxRecDepth 20000 in
theorem ggX4_setTaste_X4_checkIndex : GoodIn wsX4_setTaste wsX4_checkIndex := goodIn_ca (goodIn_r _ [12, 13, 14] (by decide +kernel) (by decide +kernel)) (goodIn_sub (fun _ h => List.mem_cons_of_mem _ (List.mem_append_left _ (List.mem_append_right _ h))) (by decide +kernel))
set_option maxRecDepth 20000 in
theorem gX4_setTaste_X4_checkIndex : GoodIn wsX4_setTaste (va_wsS RX4 49 yX4_checkIndex wsX4_checkIndex) := goodIn_app (goodIn_of _ (by decide +kernel)) ggX4_setTaste_X4_checkIndex
set_option maxRecDepth 20000 in
theorem ggX4_setTaste_X4_checkRange : GoodIn wsX4_setTaste wsX4_checkRange := goodIn_ca (goodIn_r _ [17, 18, 19] (by decide +kernel) (by decide +kernel)) (goodIn_sub (fun _ h => List.mem_cons_of_mem _ (List.mem_append_right _ h)) (by decide +kernel))
set_option maxRecDepth 20000 in
theorem gX4_setTaste_X4_checkRange : GoodIn wsX4_setTaste (va_wsS RX4 26 yX4_checkRange wsX4_checkRange) := goodIn_app (goodIn_of _ (by decide +kernel)) ggX4_setTaste_X4_checkRange
theorem dX4_setTaste_0 : decode cX4_setTaste 0 = .ok (.aload_n 0, 1) := by decide +kernel
theorem dX4_setTaste_1 : decode cX4_setTaste 1 = .ok (.iload_n 1, 1) := by decide +kernel
theorem dX4_setTaste_2 : decode cX4_setTaste 2 = .ok (.invokevirtual 45, 3) := by decide +kernel
theorem dX4_setTaste_5 : decode cX4_setTaste 5 = .ok (.iload_n 2, 1) := by decide +kernel
theorem dX4_setTaste_6 : decode cX4_setTaste 6 = .ok (.bipush 6, 2) := by decide +kernel
theorem dX4_setTaste_8 : decode cX4_setTaste 8 = .ok (.invokestatic 49, 3) := by decide +kernel
theorem dX4_setTaste_11 : decode cX4_setTaste 11 = .ok (.iload_n 3, 1) := by decide +kernel
theorem dX4_setTaste_12 : decode cX4_setTaste 12 = .ok (.iconst 0, 1) := by decide +kernel
theorem dX4_setTaste_13 : decode cX4_setTaste 13 = .ok (.bipush 9, 2) := by decide +kernel
theorem dX4_setTaste_15 : decode cX4_setTaste 15 = .ok (.invokestatic 26, 3) := by decide +kernel
theorem dX4_setTaste_18 : decode cX4_setTaste 18 = .ok (.aload_n 0, 1) := by decide +kernel
theorem dX4_setTaste_19 : decode cX4_setTaste 19 = .ok (.getfield 10, 3) := by decide +kernel
theorem dX4_setTaste_22 : decode cX4_setTaste 22 = .ok (.getfield 53, 3) := by decide +kernel
theorem dX4_setTaste_25 : decode cX4_setTaste 25 = .ok (.iload_n 1, 1) := by decide +kernel
theorem dX4_setTaste_26 : decode cX4_setTaste 26 = .ok (.aaload, 1) := by decide +kernel
theorem dX4_setTaste_27 : decode cX4_setTaste 27 = .ok (.getfield 63, 3) := by decide +kernel
theorem dX4_setTaste_30 : decode cX4_setTaste 30 = .ok (.astore 4, 2) := by decide +kernel
theorem dX4_setTaste_32 : decode cX4_setTaste 32 = .ok (.aload 4, 2) := by decide +kernel
theorem dX4_setTaste_34 : decode cX4_setTaste 34 = .ok (.iload_n 2, 1) := by decide +kernel
theorem dX4_setTaste_35 : decode cX4_setTaste 35 = .ok (.iaload, 1) := by decide +kernel
theorem dX4_setTaste_36 : decode cX4_setTaste 36 = .ok (.istore 5, 2) := by decide +kernel
theorem dX4_setTaste_38 : decode cX4_setTaste 38 = .ok (.aload 4, 2) := by decide +kernel
theorem dX4_setTaste_40 : decode cX4_setTaste 40 = .ok (.iload_n 2, 1) := by decide +kernel
theorem dX4_setTaste_41 : decode cX4_setTaste 41 = .ok (.iload_n 3, 1) := by decide +kernel
theorem dX4_setTaste_42 : decode cX4_setTaste 42 = .ok (.iastore, 1) := by decide +kernel
theorem dX4_setTaste_43 : decode cX4_setTaste 43 = .ok (.iload 5, 2) := by decide +kernel
theorem dX4_setTaste_45 : decode cX4_setTaste 45 = .ok (.ireturn, 1) := by decide +kernel
set_option maxRecDepth 20000 in
theorem ggX4_street_X4_checkStreet : GoodIn wsX4_street wsX4_checkStreet := goodIn_ca (goodIn_r _ [6, 1, 7, 8, 9, 5, 10, 11, 12, 76, 77, 78, 79, 80, 81, 82, 83] (by decide +kernel) (by decide +kernel)) (goodIn_sub (fun _ h => List.mem_cons_of_mem _ (List.mem_append_right _ h)) (by decide +kernel))
set_option maxRecDepth 20000 in
theorem gX4_street_X4_checkStreet : GoodIn wsX4_street (wsV RX4 45 RX4 yX4_checkStreet wsX4_checkStreet) := goodIn_app (goodIn_of _ (by decide +kernel)) ggX4_street_X4_checkStreet
set_option maxRecDepth 20000 in
theorem ggX4_street_X4_checkIndex : GoodIn wsX4_street wsX4_checkIndex := goodIn_ca (goodIn_r _ [10, 11, 12] (by decide +kernel) (by decide +kernel)) (goodIn_sub (fun _ h => List.mem_cons_of_mem _ (List.mem_append_right _ h)) (by decide +kernel))
set_option maxRecDepth 20000 in
theorem gX4_street_X4_checkIndex : GoodIn wsX4_street (va_wsS RX4 49 yX4_checkIndex wsX4_checkIndex) := goodIn_app (goodIn_of _ (by decide +kernel)) ggX4_street_X4_checkIndex
set_option maxRecDepth 20000 in
theorem ggX4_street_X3_streetFact : GoodIn wsX4_street wsX3_streetFact := goodIn_r _ [17, 18, 19, 20, 21, 22, 23, 24, 16, 25, 26, 27, 28, 29, 30, 31, 32, 33, 34, 35, 36, 37, 38, 39, 40, 41, 42, 43, 44, 45, 46, 47, 48, 49, 50, 51, 52, 53, 54, 55, 56, 57, 58, 59, 60, 61, 62, 63, 64, 65, 66, 67, 68, 69, 70, 71, 72, 73, 74, 75, 79, 80, 81, 82, 83, 84, 85, 86, 87, 88, 89, 90, 91, 92, 93, 94, 95, 96, 97, 98, 99, 100, 101] (by decide +kernel) (by decide +kernel)
set_option maxRecDepth 20000 in
theorem gX4_street_X3_streetFact : GoodIn wsX4_street (wsV RX4 66 RX3 yX3_streetFact wsX3_streetFact) := goodIn_app (goodIn_of _ (by decide +kernel)) ggX4_street_X3_streetFact
theorem dX4_street_0 : decode cX4_street 0 = .ok (.aload_n 0, 1) := by decide +kernel
theorem dX4_street_1 : decode cX4_street 1 = .ok (.iload_n 1, 1) := by decide +kernel
theorem dX4_street_2 : decode cX4_street 2 = .ok (.invokevirtual 45, 3) := by decide +kernel
theorem dX4_street_5 : decode cX4_street 5 = .ok (.iload_n 2, 1) := by decide +kernel
theorem dX4_street_6 : decode cX4_street 6 = .ok (.bipush 8, 2) := by decide +kernel
theorem dX4_street_8 : decode cX4_street 8 = .ok (.invokestatic 49, 3) := by decide +kernel
theorem dX4_street_11 : decode cX4_street 11 = .ok (.aload_n 0, 1) := by decide +kernel
theorem dX4_street_12 : decode cX4_street 12 = .ok (.getfield 10, 3) := by decide +kernel
theorem dX4_street_15 : decode cX4_street 15 = .ok (.iload_n 1, 1) := by decide +kernel
theorem dX4_street_16 : decode cX4_street 16 = .ok (.iload_n 2, 1) := by decide +kernel
theorem dX4_street_17 : decode cX4_street 17 = .ok (.invokevirtual 66, 3) := by decide +kernel
theorem dX4_street_20 : decode cX4_street 20 = .ok (.ireturn, 1) := by decide +kernel
set_option maxRecDepth 20000 in
theorem ggX4_ear_X4_checkStreet : GoodIn wsX4_ear wsX4_checkStreet := goodIn_ca (goodIn_r _ [9, 1, 10, 11, 12, 8, 13, 14, 15, 16, 17, 18, 19, 20, 21, 22, 23] (by decide +kernel) (by decide +kernel)) (goodIn_sub (fun _ h => List.mem_cons_of_mem _ (List.mem_append_right _ h)) (by decide +kernel))
set_option maxRecDepth 20000 in
theorem gX4_ear_X4_checkStreet : GoodIn wsX4_ear (wsV RX4 45 RX4 yX4_checkStreet wsX4_checkStreet) := goodIn_app (goodIn_of _ (by decide +kernel)) ggX4_ear_X4_checkStreet
set_option maxRecDepth 20000 in
theorem ggX4_ear_X4_checkIndex : GoodIn wsX4_ear wsX4_checkIndex := goodIn_ca (goodIn_r _ [13, 14, 15] (by decide +kernel) (by decide +kernel)) (goodIn_sub (fun _ h => List.mem_cons_of_mem _ (List.mem_append_right _ h)) (by decide +kernel))
set_option maxRecDepth 20000 in
theorem gX4_ear_X4_checkIndex : GoodIn wsX4_ear (va_wsS RX4 49 yX4_checkIndex wsX4_checkIndex) := goodIn_app (goodIn_of _ (by decide +kernel)) ggX4_ear_X4_checkIndex
theorem dX4_ear_0 : decode cX4_ear 0 = .ok (.aload_n 0, 1) := by decide +kernel
theorem dX4_ear_1 : decode cX4_ear 1 = .ok (.iload_n 1, 1) := by decide +kernel
theorem dX4_ear_2 : decode cX4_ear 2 = .ok (.invokevirtual 45, 3) := by decide +kernel
theorem dX4_ear_5 : decode cX4_ear 5 = .ok (.iload_n 2, 1) := by decide +kernel
theorem dX4_ear_6 : decode cX4_ear 6 = .ok (.bipush 6, 2) := by decide +kernel
theorem dX4_ear_8 : decode cX4_ear 8 = .ok (.invokestatic 49, 3) := by decide +kernel
theorem dX4_ear_11 : decode cX4_ear 11 = .ok (.aload_n 0, 1) := by decide +kernel
theorem dX4_ear_12 : decode cX4_ear 12 = .ok (.getfield 10, 3) := by decide +kernel
theorem dX4_ear_15 : decode cX4_ear 15 = .ok (.getfield 53, 3) := by decide +kernel
theorem dX4_ear_18 : decode cX4_ear 18 = .ok (.iload_n 1, 1) := by decide +kernel
theorem dX4_ear_19 : decode cX4_ear 19 = .ok (.aaload, 1) := by decide +kernel
theorem dX4_ear_20 : decode cX4_ear 20 = .ok (.astore 4, 2) := by decide +kernel
theorem dX4_ear_22 : decode cX4_ear 22 = .ok (.iload_n 3, 1) := by decide +kernel
theorem dX4_ear_23 : decode cX4_ear 23 = .ok (.ifCond .eq 13, 3) := by decide +kernel
theorem dX4_ear_26 : decode cX4_ear 26 = .ok (.aload 4, 2) := by decide +kernel
theorem dX4_ear_28 : decode cX4_ear 28 = .ok (.getfield 63, 3) := by decide +kernel
theorem dX4_ear_31 : decode cX4_ear 31 = .ok (.iload_n 2, 1) := by decide +kernel
theorem dX4_ear_32 : decode cX4_ear 32 = .ok (.iaload, 1) := by decide +kernel
theorem dX4_ear_33 : decode cX4_ear 33 = .ok (.goto 10, 3) := by decide +kernel
theorem dX4_ear_36 : decode cX4_ear 36 = .ok (.aload 4, 2) := by decide +kernel
theorem dX4_ear_38 : decode cX4_ear 38 = .ok (.getfield 70, 3) := by decide +kernel
theorem dX4_ear_41 : decode cX4_ear 41 = .ok (.iload_n 2, 1) := by decide +kernel
theorem dX4_ear_42 : decode cX4_ear 42 = .ok (.iaload, 1) := by decide +kernel
theorem dX4_ear_43 : decode cX4_ear 43 = .ok (.ireturn, 1) := by decide +kernel
set_option maxRecDepth 20000 in
theorem ggX4_addOrgan_X4_checkPitch : GoodIn wsX4_addOrgan wsX4_checkPitch := goodIn_ca (goodIn_r _ [9, 3, 10, 11, 12, 13, 14, 8, 15, 16, 17, 18, 19, 20, 21, 60, 61, 62, 63, 64, 65, 66, 67, 68, 69, 70, 71, 72, 73] (by decide +kernel) (by decide +kernel)) (goodIn_sub (fun _ h => List.mem_cons_of_mem _ (List.mem_append_left _ (List.mem_append_right _ h))) (by decide +kernel))
set_option maxRecDepth 20000 in
theorem gX4_addOrgan_X4_checkPitch : GoodIn wsX4_addOrgan (wsV RX4 73 RX4 yX4_checkPitch wsX4_checkPitch) := goodIn_app (goodIn_of _ (by decide +kernel)) ggX4_addOrgan_X4_checkPitch
set_option maxRecDepth 20000 in
theorem ggX4_addOrgan_X4_checkRange : GoodIn wsX4_addOrgan wsX4_checkRange := goodIn_ca (goodIn_r _ [24, 25, 26] (by decide +kernel) (by decide +kernel)) (goodIn_sub (fun _ h => List.mem_cons_of_mem _ (List.mem_append_right _ h)) (by decide +kernel))
set_option maxRecDepth 20000 in
theorem gX4_addOrgan_X4_checkRange : GoodIn wsX4_addOrgan (va_wsS RX4 26 yX4_checkRange wsX4_checkRange) := goodIn_app (goodIn_of _ (by decide +kernel)) ggX4_addOrgan_X4_checkRange
set_option maxRecDepth 20000 in
theorem ggX4_addOrgan_X3_newOrgan : GoodIn wsX4_addOrgan wsX3_newOrgan := goodIn_r _ [31, 32, 33, 34, 35, 36, 37, 38, 39, 40, 41, 42, 43, 44, 45, 46, 47, 48, 49, 50, 51, 52, 53, 54, 55, 56, 57, 58, 59, 63, 64, 65, 66, 67, 74, 75, 76, 77, 78, 79, 80, 81, 82, 83, 84, 85] (by decide +kernel) (by decide +kernel)
set_option maxRecDepth 20000 in
theorem gX4_addOrgan_X3_newOrgan : GoodIn wsX4_addOrgan (wsV RX4 81 RX3 yX3_newOrgan wsX3_newOrgan) := goodIn_app (goodIn_of _ (by decide +kernel)) ggX4_addOrgan_X3_newOrgan
theorem dX4_addOrgan_0 : decode cX4_addOrgan 0 = .ok (.aload_n 0, 1) := by decide +kernel
theorem dX4_addOrgan_1 : decode cX4_addOrgan 1 = .ok (.iload_n 1, 1) := by decide +kernel
theorem dX4_addOrgan_2 : decode cX4_addOrgan 2 = .ok (.iload_n 2, 1) := by decide +kernel
theorem dX4_addOrgan_3 : decode cX4_addOrgan 3 = .ok (.invokevirtual 73, 3) := by decide +kernel
theorem dX4_addOrgan_6 : decode cX4_addOrgan 6 = .ok (.iload_n 3, 1) := by decide +kernel
theorem dX4_addOrgan_7 : decode cX4_addOrgan 7 = .ok (.iconst 1, 1) := by decide +kernel
theorem dX4_addOrgan_8 : decode cX4_addOrgan 8 = .ok (.bipush 9, 2) := by decide +kernel
theorem dX4_addOrgan_10 : decode cX4_addOrgan 10 = .ok (.invokestatic 26, 3) := by decide +kernel
theorem dX4_addOrgan_13 : decode cX4_addOrgan 13 = .ok (.aload_n 0, 1) := by decide +kernel
theorem dX4_addOrgan_14 : decode cX4_addOrgan 14 = .ok (.getfield 10, 3) := by decide +kernel
theorem dX4_addOrgan_17 : decode cX4_addOrgan 17 = .ok (.getfield 76, 3) := by decide +kernel
theorem dX4_addOrgan_20 : decode cX4_addOrgan 20 = .ok (.bipush 8, 2) := by decide +kernel
theorem dX4_addOrgan_22 : decode cX4_addOrgan 22 = .ok (.if_icmp .lt 13, 3) := by decide +kernel
theorem dX4_addOrgan_25 : decode cX4_addOrgan 25 = .ok (.new 34, 3) := by decide +kernel
theorem dX4_addOrgan_28 : decode cX4_addOrgan 28 = .ok (.dup, 1) := by decide +kernel
theorem dX4_addOrgan_29 : decode cX4_addOrgan 29 = .ok (.ldc 79, 2) := by decide +kernel
theorem dX4_addOrgan_31 : decode cX4_addOrgan 31 = .ok (.invokespecial 38, 3) := by decide +kernel
theorem dX4_addOrgan_34 : decode cX4_addOrgan 34 = .ok (.athrow, 1) := by decide +kernel
theorem dX4_addOrgan_35 : decode cX4_addOrgan 35 = .ok (.aload_n 0, 1) := by decide +kernel
theorem dX4_addOrgan_36 : decode cX4_addOrgan 36 = .ok (.getfield 10, 3) := by decide +kernel
theorem dX4_addOrgan_39 : decode cX4_addOrgan 39 = .ok (.iload_n 1, 1) := by decide +kernel
theorem dX4_addOrgan_40 : decode cX4_addOrgan 40 = .ok (.iload_n 2, 1) := by decide +kernel
theorem dX4_addOrgan_41 : decode cX4_addOrgan 41 = .ok (.iload_n 3, 1) := by decide +kernel
theorem dX4_addOrgan_42 : decode cX4_addOrgan 42 = .ok (.invokevirtual 81, 3) := by decide +kernel
theorem dX4_addOrgan_45 : decode cX4_addOrgan 45 = .ok (.ireturn, 1) := by decide +kernel
set_option maxRecDepth 20000 in
theorem ggX4_setBarrel_X4_checkOrgan : GoodIn wsX4_setBarrel wsX4_checkOrgan := goodIn_ca (goodIn_r _ [10, 3, 11, 12, 13, 9, 14, 15, 16, 38, 39, 40, 41, 42, 43, 44, 45] (by decide +kernel) (by decide +kernel)) (goodIn_sub (fun _ h => List.mem_cons_of_mem _ (List.mem_append_right _ h)) (by decide +kernel))
set_option maxRecDepth 20000 in
theorem gX4_setBarrel_X4_checkOrgan : GoodIn wsX4_setBarrel (wsV RX4 85 RX4 yX4_checkOrgan wsX4_checkOrgan) := goodIn_app (goodIn_of _ (by decide +kernel)) ggX4_setBarrel_X4_checkOrgan
set_option maxRecDepth 20000 in
theorem ggX4_setBarrel_X4_isBarrel : GoodIn wsX4_setBarrel wsX4_isBarrel := goodIn_r _ [19] (by decide +kernel) (by decide +kernel)
set_option maxRecDepth 20000 in
theorem gX4_setBarrel_X4_isBarrel : GoodIn wsX4_setBarrel (va_wsS RX4 88 yX4_isBarrel wsX4_isBarrel) := goodIn_app (goodIn_of _ (by decide +kernel)) ggX4_setBarrel_X4_isBarrel
set_option maxRecDepth 20000 in
theorem ggX4_setBarrel_X0_putBarrel : GoodIn wsX4_setBarrel wsX0_putBarrel := goodIn_r _ [24, 25, 26, 27, 28, 29, 30, 31, 32, 33, 34, 35, 36, 37, 46, 47, 48, 49, 50, 51, 52, 53, 54, 55, 56, 57] (by decide +kernel) (by decide +kernel)
set_option maxRecDepth 20000 in
theorem gX4_setBarrel_X0_putBarrel : GoodIn wsX4_setBarrel (wsV RX4 106 RX0 yX0_putBarrel wsX0_putBarrel) := goodIn_app (goodIn_of _ (by decide +kernel)) ggX4_setBarrel_X0_putBarrel
theorem dX4_setBarrel_0 : decode cX4_setBarrel 0 = .ok (.aload_n 0, 1) := by decide +kernel
theorem dX4_setBarrel_1 : decode cX4_setBarrel 1 = .ok (.iload_n 1, 1) := by decide +kernel
theorem dX4_setBarrel_2 : decode cX4_setBarrel 2 = .ok (.invokevirtual 85, 3) := by decide +kernel
theorem dX4_setBarrel_5 : decode cX4_setBarrel 5 = .ok (.iload_n 2, 1) := by decide +kernel
theorem dX4_setBarrel_6 : decode cX4_setBarrel 6 = .ok (.invokestatic 88, 3) := by decide +kernel
theorem dX4_setBarrel_9 : decode cX4_setBarrel 9 = .ok (.ifCond .ne 13, 3) := by decide +kernel
theorem dX4_setBarrel_12 : decode cX4_setBarrel 12 = .ok (.new 92, 3) := by decide +kernel
theorem dX4_setBarrel_15 : decode cX4_setBarrel 15 = .ok (.dup, 1) := by decide +kernel
theorem dX4_setBarrel_16 : decode cX4_setBarrel 16 = .ok (.ldc 94, 2) := by decide +kernel
theorem dX4_setBarrel_18 : decode cX4_setBarrel 18 = .ok (.invokespecial 96, 3) := by decide +kernel
theorem dX4_setBarrel_21 : decode cX4_setBarrel 21 = .ok (.athrow, 1) := by decide +kernel
theorem dX4_setBarrel_22 : decode cX4_setBarrel 22 = .ok (.aload_n 0, 1) := by decide +kernel
theorem dX4_setBarrel_23 : decode cX4_setBarrel 23 = .ok (.getfield 10, 3) := by decide +kernel
theorem dX4_setBarrel_26 : decode cX4_setBarrel 26 = .ok (.getfield 97, 3) := by decide +kernel
theorem dX4_setBarrel_29 : decode cX4_setBarrel 29 = .ok (.iload_n 1, 1) := by decide +kernel
theorem dX4_setBarrel_30 : decode cX4_setBarrel 30 = .ok (.aaload, 1) := by decide +kernel
theorem dX4_setBarrel_31 : decode cX4_setBarrel 31 = .ok (.getfield 101, 3) := by decide +kernel
theorem dX4_setBarrel_34 : decode cX4_setBarrel 34 = .ok (.istore_n 3, 1) := by decide +kernel
theorem dX4_setBarrel_35 : decode cX4_setBarrel 35 = .ok (.aload_n 0, 1) := by decide +kernel
theorem dX4_setBarrel_36 : decode cX4_setBarrel 36 = .ok (.getfield 10, 3) := by decide +kernel
theorem dX4_setBarrel_39 : decode cX4_setBarrel 39 = .ok (.getfield 97, 3) := by decide +kernel
theorem dX4_setBarrel_42 : decode cX4_setBarrel 42 = .ok (.iload_n 1, 1) := by decide +kernel
theorem dX4_setBarrel_43 : decode cX4_setBarrel 43 = .ok (.aaload, 1) := by decide +kernel
theorem dX4_setBarrel_44 : decode cX4_setBarrel 44 = .ok (.iload_n 2, 1) := by decide +kernel
theorem dX4_setBarrel_45 : decode cX4_setBarrel 45 = .ok (.invokevirtual 106, 3) := by decide +kernel
theorem dX4_setBarrel_48 : decode cX4_setBarrel 48 = .ok (.iload_n 3, 1) := by decide +kernel
theorem dX4_setBarrel_49 : decode cX4_setBarrel 49 = .ok (.ireturn, 1) := by decide +kernel
set_option maxRecDepth 20000 in
theorem ggX4_send_X4_checkOrgan : GoodIn wsX4_send wsX4_checkOrgan := goodIn_ca (goodIn_r _ [10, 3, 11, 12, 13, 9, 14, 15, 16, 44, 45, 46, 47, 48, 49, 50, 51] (by decide +kernel) (by decide +kernel)) (goodIn_sub (fun _ h => List.mem_cons_of_mem _ (List.mem_append_right _ h)) (by decide +kernel))
set_option maxRecDepth 20000 in
theorem gX4_send_X4_checkOrgan : GoodIn wsX4_send (wsV RX4 85 RX4 yX4_checkOrgan wsX4_checkOrgan) := goodIn_app (goodIn_of _ (by decide +kernel)) ggX4_send_X4_checkOrgan
set_option maxRecDepth 20000 in
theorem ggX4_send_X4_checkPitch : GoodIn wsX4_send wsX4_checkPitch := goodIn_ca (goodIn_r _ [20, 3, 21, 22, 23, 24, 25, 9, 26, 27, 12, 13, 14, 15, 16, 44, 45, 46, 47, 48, 49, 50, 51, 64, 65, 66, 67, 68, 69] (by decide +kernel) (by decide +kernel)) (goodIn_sub (fun _ h => List.mem_cons_of_mem _ (List.mem_append_right _ h)) (by decide +kernel))
set_option maxRecDepth 20000 in
theorem gX4_send_X4_checkPitch : GoodIn wsX4_send (wsV RX4 73 RX4 yX4_checkPitch wsX4_checkPitch) := goodIn_app (goodIn_of _ (by decide +kernel)) ggX4_send_X4_checkPitch
set_option maxRecDepth 20000 in
theorem ggX4_send_X0_hoursTo : GoodIn wsX4_send wsX0_hoursTo := goodIn_r _ [32, 33, 34, 35, 36, 37, 38, 52, 53, 54, 55, 56, 57, 58, 59, 60, 61, 62, 63] (by decide +kernel) (by decide +kernel)
set_option maxRecDepth 20000 in
theorem gX4_send_X0_hoursTo : GoodIn wsX4_send (wsV RX4 114 RX0 yX0_hoursTo wsX0_hoursTo) := goodIn_app (goodIn_of _ (by decide +kernel)) ggX4_send_X0_hoursTo
set_option maxRecDepth 20000 in
theorem ggX4_send_X0_moveTo : GoodIn wsX4_send wsX0_moveTo := goodIn_r _ [42, 33, 34, 43, 52, 53, 54, 55, 56, 57, 58, 59, 60, 61, 62, 63] (by decide +kernel) (by decide +kernel)
set_option maxRecDepth 20000 in
theorem gX4_send_X0_moveTo : GoodIn wsX4_send (wsV RX4 117 RX0 yX0_moveTo wsX0_moveTo) := goodIn_app (goodIn_of _ (by decide +kernel)) ggX4_send_X0_moveTo
theorem dX4_send_0 : decode cX4_send 0 = .ok (.aload_n 0, 1) := by decide +kernel
theorem dX4_send_1 : decode cX4_send 1 = .ok (.iload_n 1, 1) := by decide +kernel
theorem dX4_send_2 : decode cX4_send 2 = .ok (.invokevirtual 85, 3) := by decide +kernel
theorem dX4_send_5 : decode cX4_send 5 = .ok (.aload_n 0, 1) := by decide +kernel
theorem dX4_send_6 : decode cX4_send 6 = .ok (.iload_n 2, 1) := by decide +kernel
theorem dX4_send_7 : decode cX4_send 7 = .ok (.iload_n 3, 1) := by decide +kernel
theorem dX4_send_8 : decode cX4_send 8 = .ok (.invokevirtual 73, 3) := by decide +kernel
theorem dX4_send_11 : decode cX4_send 11 = .ok (.aload_n 0, 1) := by decide +kernel
theorem dX4_send_12 : decode cX4_send 12 = .ok (.getfield 10, 3) := by decide +kernel
theorem dX4_send_15 : decode cX4_send 15 = .ok (.getfield 97, 3) := by decide +kernel
theorem dX4_send_18 : decode cX4_send 18 = .ok (.iload_n 1, 1) := by decide +kernel
theorem dX4_send_19 : decode cX4_send 19 = .ok (.aaload, 1) := by decide +kernel
theorem dX4_send_20 : decode cX4_send 20 = .ok (.astore 4, 2) := by decide +kernel
theorem dX4_send_22 : decode cX4_send 22 = .ok (.aload 4, 2) := by decide +kernel
theorem dX4_send_24 : decode cX4_send 24 = .ok (.getfield 109, 3) := by decide +kernel
theorem dX4_send_27 : decode cX4_send 27 = .ok (.iload_n 2, 1) := by decide +kernel
theorem dX4_send_28 : decode cX4_send 28 = .ok (.iaload, 1) := by decide +kernel
theorem dX4_send_29 : decode cX4_send 29 = .ok (.ifCond .le 13, 3) := by decide +kernel
theorem dX4_send_32 : decode cX4_send 32 = .ok (.new 34, 3) := by decide +kernel
theorem dX4_send_35 : decode cX4_send 35 = .ok (.dup, 1) := by decide +kernel
theorem dX4_send_36 : decode cX4_send 36 = .ok (.ldc 112, 2) := by decide +kernel
theorem dX4_send_38 : decode cX4_send 38 = .ok (.invokespecial 38, 3) := by decide +kernel
theorem dX4_send_41 : decode cX4_send 41 = .ok (.athrow, 1) := by decide +kernel
theorem dX4_send_42 : decode cX4_send 42 = .ok (.aload 4, 2) := by decide +kernel
theorem dX4_send_44 : decode cX4_send 44 = .ok (.iload_n 2, 1) := by decide +kernel
theorem dX4_send_45 : decode cX4_send 45 = .ok (.iload_n 3, 1) := by decide +kernel
theorem dX4_send_46 : decode cX4_send 46 = .ok (.invokevirtual 114, 3) := by decide +kernel
theorem dX4_send_49 : decode cX4_send 49 = .ok (.istore 5, 2) := by decide +kernel
theorem dX4_send_51 : decode cX4_send 51 = .ok (.aload 4, 2) := by decide +kernel
theorem dX4_send_53 : decode cX4_send 53 = .ok (.iload_n 2, 1) := by decide +kernel
theorem dX4_send_54 : decode cX4_send 54 = .ok (.iload_n 3, 1) := by decide +kernel
theorem dX4_send_55 : decode cX4_send 55 = .ok (.iload 5, 2) := by decide +kernel
theorem dX4_send_57 : decode cX4_send 57 = .ok (.invokevirtual 117, 3) := by decide +kernel
theorem dX4_send_60 : decode cX4_send 60 = .ok (.iload 5, 2) := by decide +kernel
theorem dX4_send_62 : decode cX4_send 62 = .ok (.ireturn, 1) := by decide +kernel
set_option maxRecDepth 20000 in
theorem ggX4_organ_X4_checkOrgan : GoodIn wsX4_organ wsX4_checkOrgan := goodIn_ca (goodIn_r _ [7, 1, 8, 9, 10, 6, 11, 12, 13, 46, 47, 48, 49, 50, 51, 52, 53] (by decide +kernel) (by decide +kernel)) (goodIn_sub (fun _ h => List.mem_cons_of_mem _ (List.mem_append_right _ h)) (by decide +kernel))
set_option maxRecDepth 20000 in
theorem gX4_organ_X4_checkOrgan : GoodIn wsX4_organ (wsV RX4 85 RX4 yX4_checkOrgan wsX4_checkOrgan) := goodIn_app (goodIn_of _ (by decide +kernel)) ggX4_organ_X4_checkOrgan
set_option maxRecDepth 20000 in
theorem ggX4_organ_X4_checkIndex : GoodIn wsX4_organ wsX4_checkIndex := goodIn_ca (goodIn_r _ [11, 12, 13] (by decide +kernel) (by decide +kernel)) (goodIn_sub (fun _ h => List.mem_cons_of_mem _ (List.mem_append_right _ h)) (by decide +kernel))
set_option maxRecDepth 20000 in
theorem gX4_organ_X4_checkIndex : GoodIn wsX4_organ (va_wsS RX4 49 yX4_checkIndex wsX4_checkIndex) := goodIn_app (goodIn_of _ (by decide +kernel)) ggX4_organ_X4_checkIndex
set_option maxRecDepth 20000 in
theorem ggX4_organ_X0_fact : GoodIn wsX4_organ wsX0_fact := goodIn_r _ [18, 19, 20, 21, 22, 23, 24, 25, 26, 27, 28, 17, 29, 30, 31, 32, 33, 34, 35, 36, 37, 38, 39, 40, 41, 42, 43, 44, 45, 54, 55, 56, 57, 58, 59, 60, 61, 62, 63, 64, 65] (by decide +kernel) (by decide +kernel)
set_option maxRecDepth 20000 in
theorem gX4_organ_X0_fact : GoodIn wsX4_organ (wsV RX4 120 RX0 yX0_fact wsX0_fact) := goodIn_app (goodIn_of _ (by decide +kernel)) ggX4_organ_X0_fact
theorem dX4_organ_0 : decode cX4_organ 0 = .ok (.aload_n 0, 1) := by decide +kernel
theorem dX4_organ_1 : decode cX4_organ 1 = .ok (.iload_n 1, 1) := by decide +kernel
theorem dX4_organ_2 : decode cX4_organ 2 = .ok (.invokevirtual 85, 3) := by decide +kernel
theorem dX4_organ_5 : decode cX4_organ 5 = .ok (.iload_n 2, 1) := by decide +kernel
theorem dX4_organ_6 : decode cX4_organ 6 = .ok (.bipush 11, 2) := by decide +kernel
theorem dX4_organ_8 : decode cX4_organ 8 = .ok (.invokestatic 49, 3) := by decide +kernel
theorem dX4_organ_11 : decode cX4_organ 11 = .ok (.aload_n 0, 1) := by decide +kernel
theorem dX4_organ_12 : decode cX4_organ 12 = .ok (.getfield 10, 3) := by decide +kernel
theorem dX4_organ_15 : decode cX4_organ 15 = .ok (.getfield 97, 3) := by decide +kernel
theorem dX4_organ_18 : decode cX4_organ 18 = .ok (.iload_n 1, 1) := by decide +kernel
theorem dX4_organ_19 : decode cX4_organ 19 = .ok (.aaload, 1) := by decide +kernel
theorem dX4_organ_20 : decode cX4_organ 20 = .ok (.iload_n 2, 1) := by decide +kernel
theorem dX4_organ_21 : decode cX4_organ 21 = .ok (.invokevirtual 120, 3) := by decide +kernel
theorem dX4_organ_24 : decode cX4_organ 24 = .ok (.ireturn, 1) := by decide +kernel
set_option maxRecDepth 20000 in
theorem ggX4_banished_X4_checkOrgan : GoodIn wsX4_banished wsX4_checkOrgan := goodIn_ca (goodIn_r _ [8, 1, 9, 10, 11, 7, 12, 13, 14, 20, 21, 22, 23, 24, 25, 26, 27] (by decide +kernel) (by decide +kernel)) (goodIn_sub (fun _ h => List.mem_cons_of_mem _ (List.mem_append_right _ h)) (by decide +kernel))
set_option maxRecDepth 20000 in
theorem gX4_banished_X4_checkOrgan : GoodIn wsX4_banished (wsV RX4 85 RX4 yX4_checkOrgan wsX4_checkOrgan) := goodIn_app (goodIn_of _ (by decide +kernel)) ggX4_banished_X4_checkOrgan
set_option maxRecDepth 20000 in
theorem ggX4_banished_X4_checkStreet : GoodIn wsX4_banished wsX4_checkStreet := goodIn_ca (goodIn_r _ [18, 1, 19, 10, 11, 7, 12, 13, 14, 20, 21, 22, 23, 24, 25, 26, 27] (by decide +kernel) (by decide +kernel)) (goodIn_sub (fun _ h => List.mem_cons_of_mem _ (List.mem_append_right _ h)) (by decide +kernel))
set_option maxRecDepth 20000 in
theorem gX4_banished_X4_checkStreet : GoodIn wsX4_banished (wsV RX4 45 RX4 yX4_checkStreet wsX4_checkStreet) := goodIn_app (goodIn_of _ (by decide +kernel)) ggX4_banished_X4_checkStreet
theorem dX4_banished_0 : decode cX4_banished 0 = .ok (.aload_n 0, 1) := by decide +kernel
theorem dX4_banished_1 : decode cX4_banished 1 = .ok (.iload_n 1, 1) := by decide +kernel
theorem dX4_banished_2 : decode cX4_banished 2 = .ok (.invokevirtual 85, 3) := by decide +kernel
theorem dX4_banished_5 : decode cX4_banished 5 = .ok (.aload_n 0, 1) := by decide +kernel
theorem dX4_banished_6 : decode cX4_banished 6 = .ok (.iload_n 2, 1) := by decide +kernel
theorem dX4_banished_7 : decode cX4_banished 7 = .ok (.invokevirtual 45, 3) := by decide +kernel
theorem dX4_banished_10 : decode cX4_banished 10 = .ok (.aload_n 0, 1) := by decide +kernel
theorem dX4_banished_11 : decode cX4_banished 11 = .ok (.getfield 10, 3) := by decide +kernel
theorem dX4_banished_14 : decode cX4_banished 14 = .ok (.getfield 97, 3) := by decide +kernel
theorem dX4_banished_17 : decode cX4_banished 17 = .ok (.iload_n 1, 1) := by decide +kernel
theorem dX4_banished_18 : decode cX4_banished 18 = .ok (.aaload, 1) := by decide +kernel
theorem dX4_banished_19 : decode cX4_banished 19 = .ok (.getfield 109, 3) := by decide +kernel
theorem dX4_banished_22 : decode cX4_banished 22 = .ok (.iload_n 2, 1) := by decide +kernel
theorem dX4_banished_23 : decode cX4_banished 23 = .ok (.iaload, 1) := by decide +kernel
theorem dX4_banished_24 : decode cX4_banished 24 = .ok (.ireturn, 1) := by decide +kernel
set_option maxRecDepth 20000 in
theorem ggX4_heard_X4_checkPitch : GoodIn wsX4_heard wsX4_checkPitch := goodIn_ca (goodIn_r _ [6, 1, 7, 8, 9, 10, 11, 5, 12, 13, 14, 15, 16, 17, 18, 46, 47, 48, 49, 50, 51, 52, 53, 54, 55, 56, 57, 58, 59] (by decide +kernel) (by decide +kernel)) (goodIn_sub (fun _ h => List.mem_cons_of_mem _ (List.mem_append_right _ h)) (by decide +kernel))
set_option maxRecDepth 20000 in
theorem gX4_heard_X4_checkPitch : GoodIn wsX4_heard (wsV RX4 73 RX4 yX4_checkPitch wsX4_checkPitch) := goodIn_app (goodIn_of _ (by decide +kernel)) ggX4_heard_X4_checkPitch
set_option maxRecDepth 20000 in
theorem ggX4_heard_X3_whoIsHeard : GoodIn wsX4_heard wsX3_whoIsHeard := goodIn_r _ [23, 24, 25, 26, 27, 28, 29, 30, 31, 32, 33, 34, 35, 36, 37, 38, 39, 40, 41, 42, 43, 44, 45, 49, 50, 51, 52, 53, 60, 61, 62, 63, 64, 65, 66, 67, 68, 69, 70, 71] (by decide +kernel) (by decide +kernel)
set_option maxRecDepth 20000 in
theorem gX4_heard_X3_whoIsHeard : GoodIn wsX4_heard (wsV RX4 123 RX3 yX3_whoIsHeard wsX3_whoIsHeard) := goodIn_app (goodIn_of _ (by decide +kernel)) ggX4_heard_X3_whoIsHeard
theorem dX4_heard_0 : decode cX4_heard 0 = .ok (.aload_n 0, 1) := by decide +kernel
theorem dX4_heard_1 : decode cX4_heard 1 = .ok (.iload_n 1, 1) := by decide +kernel
theorem dX4_heard_2 : decode cX4_heard 2 = .ok (.iload_n 2, 1) := by decide +kernel
theorem dX4_heard_3 : decode cX4_heard 3 = .ok (.invokevirtual 73, 3) := by decide +kernel
theorem dX4_heard_6 : decode cX4_heard 6 = .ok (.aload_n 0, 1) := by decide +kernel
theorem dX4_heard_7 : decode cX4_heard 7 = .ok (.getfield 10, 3) := by decide +kernel
theorem dX4_heard_10 : decode cX4_heard 10 = .ok (.iload_n 1, 1) := by decide +kernel
theorem dX4_heard_11 : decode cX4_heard 11 = .ok (.iload_n 2, 1) := by decide +kernel
theorem dX4_heard_12 : decode cX4_heard 12 = .ok (.invokevirtual 123, 3) := by decide +kernel
theorem dX4_heard_15 : decode cX4_heard 15 = .ok (.ireturn, 1) := by decide +kernel
set_option maxRecDepth 20000 in
theorem ggX4_pass_X4_checkRange : GoodIn wsX4_pass wsX4_checkRange := goodIn_ca (goodIn_r _ [5, 6, 7] (by decide +kernel) (by decide +kernel)) (goodIn_sub (fun _ h => List.mem_cons_of_mem _ (List.mem_append_right _ h)) (by decide +kernel))
set_option maxRecDepth 20000 in
theorem gX4_pass_X4_checkRange : GoodIn wsX4_pass (va_wsS RX4 26 yX4_checkRange wsX4_checkRange) := goodIn_app (goodIn_of _ (by decide +kernel)) ggX4_pass_X4_checkRange
set_option maxRecDepth 20000 in
theorem ggX4_pass_X3_passHour : GoodIn wsX4_pass wsX3_passHour := goodIn_r _ [12, 13, 14, 15, 16, 17, 18, 19, 11, 20, 21, 22, 23, 24, 25, 26, 27, 28, 29, 30, 31, 32, 33, 34, 35, 36, 37, 38, 39, 40, 41, 42, 43, 44, 45, 46, 47, 48, 49, 50, 51, 52, 53, 54, 55, 56, 57, 58, 59, 60, 61, 62, 63, 64, 65, 66, 67, 68, 69, 70, 71, 72, 73, 74, 75, 76, 77, 78, 79, 80, 81, 82, 83, 84, 85, 86, 87, 88, 89, 90, 91, 92, 93, 94, 95, 96, 97, 98, 99, 100, 101, 102, 103, 104, 105, 106, 107, 108, 109, 110, 111, 112, 113, 114, 115, 116, 117, 118, 119, 120, 121, 122, 123, 124, 125, 126, 127, 128, 129, 130, 131, 132, 133, 134, 135, 136, 137, 138, 139, 143, 144, 145, 146, 147, 148, 149, 150, 151, 152, 153, 154, 155, 156, 157, 158, 159, 160, 161, 162, 163, 164, 165] (by decide +kernel) (by decide +kernel)
set_option maxRecDepth 20000 in
theorem gX4_pass_X3_passHour : GoodIn wsX4_pass (wsV RX4 126 RX3 yX3_passHour wsX3_passHour) := goodIn_app (goodIn_of _ (by decide +kernel)) ggX4_pass_X3_passHour
theorem dX4_pass_0 : decode cX4_pass 0 = .ok (.iload_n 1, 1) := by decide +kernel
theorem dX4_pass_1 : decode cX4_pass 1 = .ok (.iconst 1, 1) := by decide +kernel
theorem dX4_pass_2 : decode cX4_pass 2 = .ok (.bipush 100, 2) := by decide +kernel
theorem dX4_pass_4 : decode cX4_pass 4 = .ok (.invokestatic 26, 3) := by decide +kernel
theorem dX4_pass_7 : decode cX4_pass 7 = .ok (.iconst 0, 1) := by decide +kernel
theorem dX4_pass_8 : decode cX4_pass 8 = .ok (.istore_n 2, 1) := by decide +kernel
theorem dX4_pass_9 : decode cX4_pass 9 = .ok (.iconst 0, 1) := by decide +kernel
theorem dX4_pass_10 : decode cX4_pass 10 = .ok (.istore_n 3, 1) := by decide +kernel
theorem dX4_pass_11 : decode cX4_pass 11 = .ok (.iload_n 3, 1) := by decide +kernel
theorem dX4_pass_12 : decode cX4_pass 12 = .ok (.iload_n 1, 1) := by decide +kernel
theorem dX4_pass_13 : decode cX4_pass 13 = .ok (.if_icmp .ge 19, 3) := by decide +kernel
theorem dX4_pass_16 : decode cX4_pass 16 = .ok (.iload_n 2, 1) := by decide +kernel
theorem dX4_pass_17 : decode cX4_pass 17 = .ok (.aload_n 0, 1) := by decide +kernel
theorem dX4_pass_18 : decode cX4_pass 18 = .ok (.getfield 10, 3) := by decide +kernel
theorem dX4_pass_21 : decode cX4_pass 21 = .ok (.invokevirtual 126, 3) := by decide +kernel
theorem dX4_pass_24 : decode cX4_pass 24 = .ok (.iadd, 1) := by decide +kernel
theorem dX4_pass_25 : decode cX4_pass 25 = .ok (.istore_n 2, 1) := by decide +kernel
theorem dX4_pass_26 : decode cX4_pass 26 = .ok (.iinc 3 1, 3) := by decide +kernel
theorem dX4_pass_29 : decode cX4_pass 29 = .ok (.goto (-18), 3) := by decide +kernel
theorem dX4_pass_32 : decode cX4_pass 32 = .ok (.iload_n 2, 1) := by decide +kernel
theorem dX4_pass_33 : decode cX4_pass 33 = .ok (.ireturn, 1) := by decide +kernel
set_option maxRecDepth 20000 in
theorem ggX4_count_X4_checkIndex : GoodIn wsX4_count wsX4_checkIndex := goodIn_ca (goodIn_r _ [7, 8, 9] (by decide +kernel) (by decide +kernel)) (goodIn_sub (fun _ h => List.mem_cons_of_mem _ (List.mem_append_right _ h)) (by decide +kernel))
set_option maxRecDepth 20000 in
theorem gX4_count_X4_checkIndex : GoodIn wsX4_count (va_wsS RX4 49 yX4_checkIndex wsX4_checkIndex) := goodIn_app (goodIn_of _ (by decide +kernel)) ggX4_count_X4_checkIndex
set_option maxRecDepth 20000 in
theorem ggX4_count_X3_countOf : GoodIn wsX4_count wsX3_countOf := goodIn_r _ [14, 15, 16, 17, 18, 19, 20, 13, 21, 22, 23, 24, 25, 26, 27, 28, 29, 30, 31, 32, 33, 34, 35, 36, 37, 38, 39, 40, 41, 42, 43, 44, 45, 46, 47, 48, 49, 50, 51, 52, 53, 54, 55, 56, 62, 63, 64, 65, 66, 67, 68, 69, 70, 71, 72, 73, 74, 75, 76, 77, 78] (by decide +kernel) (by decide +kernel)
set_option maxRecDepth 20000 in
theorem gX4_count_X3_countOf : GoodIn wsX4_count (wsV RX4 133 RX3 yX3_countOf wsX3_countOf) := goodIn_app (goodIn_of _ (by decide +kernel)) ggX4_count_X3_countOf
theorem dX4_count_0 : decode cX4_count 0 = .ok (.iload_n 1, 1) := by decide +kernel
theorem dX4_count_1 : decode cX4_count 1 = .ok (.bipush 8, 2) := by decide +kernel
theorem dX4_count_3 : decode cX4_count 3 = .ok (.invokestatic 49, 3) := by decide +kernel
theorem dX4_count_6 : decode cX4_count 6 = .ok (.iload_n 1, 1) := by decide +kernel
theorem dX4_count_7 : decode cX4_count 7 = .ok (.bipush 7, 2) := by decide +kernel
theorem dX4_count_9 : decode cX4_count 9 = .ok (.if_icmp .ne 13, 3) := by decide +kernel
theorem dX4_count_12 : decode cX4_count 12 = .ok (.aload_n 0, 1) := by decide +kernel
theorem dX4_count_13 : decode cX4_count 13 = .ok (.getfield 22, 3) := by decide +kernel
theorem dX4_count_16 : decode cX4_count 16 = .ok (.getfield 130, 3) := by decide +kernel
theorem dX4_count_19 : decode cX4_count 19 = .ok (.goto 11, 3) := by decide +kernel
theorem dX4_count_22 : decode cX4_count 22 = .ok (.aload_n 0, 1) := by decide +kernel
theorem dX4_count_23 : decode cX4_count 23 = .ok (.getfield 10, 3) := by decide +kernel
theorem dX4_count_26 : decode cX4_count 26 = .ok (.iload_n 1, 1) := by decide +kernel
theorem dX4_count_27 : decode cX4_count 27 = .ok (.invokevirtual 133, 3) := by decide +kernel
theorem dX4_count_30 : decode cX4_count 30 = .ok (.ireturn, 1) := by decide +kernel
set_option maxRecDepth 20000 in
theorem ggX4_foresee_X4_checkOrgan : GoodIn wsX4_foresee wsX4_checkOrgan := goodIn_ca (goodIn_r _ [7, 2, 8, 9, 10, 6, 11, 12, 13, 180, 181, 182, 183, 184, 185, 186, 187] (by decide +kernel) (by decide +kernel)) (goodIn_sub (fun _ h => List.mem_cons_of_mem _ (List.mem_append_left _ (List.mem_append_right _ h))) (by decide +kernel))
set_option maxRecDepth 20000 in
theorem gX4_foresee_X4_checkOrgan : GoodIn wsX4_foresee (wsV RX4 85 RX4 yX4_checkOrgan wsX4_checkOrgan) := goodIn_app (goodIn_of _ (by decide +kernel)) ggX4_foresee_X4_checkOrgan
set_option maxRecDepth 20000 in
theorem ggX4_foresee_X4_checkRange : GoodIn wsX4_foresee wsX4_checkRange := goodIn_ca (goodIn_r _ [16, 17, 18] (by decide +kernel) (by decide +kernel)) (goodIn_sub (fun _ h => List.mem_cons_of_mem _ (List.mem_append_right _ h)) (by decide +kernel))
set_option maxRecDepth 20000 in
theorem gX4_foresee_X4_checkRange : GoodIn wsX4_foresee (va_wsS RX4 26 yX4_checkRange wsX4_checkRange) := goodIn_app (goodIn_of _ (by decide +kernel)) ggX4_foresee_X4_checkRange
set_option maxRecDepth 20000 in
theorem ggX4_foresee_X3_copyFrom : GoodIn wsX4_foresee wsX3_copyFrom := goodIn_r _ [23, 24, 25, 26, 27, 28, 29, 30, 31, 32, 33, 34, 35, 36, 37, 38, 39, 40, 41, 42, 43, 44, 45, 46, 47, 48, 49, 50, 51, 52, 53, 54, 55, 56, 57, 58, 59, 60, 61, 183, 184, 185, 186, 187, 188, 189, 190, 191, 192, 193, 194, 195, 196, 197, 198, 199, 200, 201, 202, 203, 204, 205] (by decide +kernel) (by decide +kernel)
set_option maxRecDepth 20000 in
theorem gX4_foresee_X3_copyFrom : GoodIn wsX4_foresee (wsV RX4 136 RX3 yX3_copyFrom wsX3_copyFrom) := goodIn_app (goodIn_of _ (by decide +kernel)) ggX4_foresee_X3_copyFrom
set_option maxRecDepth 20000 in
theorem ggX4_foresee_X3_coinsGot : GoodIn wsX4_foresee wsX3_coinsGot := goodIn_r _ [65, 28, 66, 67, 68, 69, 22, 70, 24, 25, 26, 71, 72, 73, 74, 27, 75, 76, 77, 78, 79, 80, 81, 82, 83, 47, 84, 56, 54, 85, 86, 87, 88, 89, 90, 91, 92, 57, 55, 93, 94, 95, 96, 97, 98, 99, 100, 101, 102, 103, 104, 105, 106, 107, 108, 109, 110, 111, 112, 113, 114, 115, 116, 117, 61, 49, 118, 119, 120, 121, 122, 123, 124, 125, 126, 127, 128, 129, 130, 131, 132, 133, 134, 135, 136, 137, 32, 138, 40, 139, 140, 141, 142, 143, 144, 145, 146, 147, 148, 149, 150, 151, 51, 152, 60, 153, 154, 155, 156, 157, 158, 159, 160, 161, 162, 163, 164, 165, 166, 167, 168, 169, 170, 171, 172, 173, 174, 175, 176, 177, 178, 179, 53, 183, 184, 185, 186, 187, 194, 195, 196, 197, 198, 199, 200, 201, 202, 203, 204, 205, 188, 189, 190, 191, 192, 193] (by decide +kernel) (by decide +kernel)
set_option maxRecDepth 20000 in
theorem gX4_foresee_X3_coinsGot : GoodIn wsX4_foresee (wsV RX4 140 RX3 yX3_coinsGot wsX3_coinsGot) := goodIn_app (goodIn_of _ (by decide +kernel)) ggX4_foresee_X3_coinsGot
theorem dX4_foresee_0 : decode cX4_foresee 0 = .ok (.aload_n 0, 1) := by decide +kernel
theorem dX4_foresee_1 : decode cX4_foresee 1 = .ok (.iload_n 1, 1) := by decide +kernel
theorem dX4_foresee_2 : decode cX4_foresee 2 = .ok (.invokevirtual 85, 3) := by decide +kernel
theorem dX4_foresee_5 : decode cX4_foresee 5 = .ok (.iload_n 2, 1) := by decide +kernel
theorem dX4_foresee_6 : decode cX4_foresee 6 = .ok (.iconst 1, 1) := by decide +kernel
theorem dX4_foresee_7 : decode cX4_foresee 7 = .ok (.bipush 100, 2) := by decide +kernel
theorem dX4_foresee_9 : decode cX4_foresee 9 = .ok (.invokestatic 26, 3) := by decide +kernel
theorem dX4_foresee_12 : decode cX4_foresee 12 = .ok (.aload_n 0, 1) := by decide +kernel
theorem dX4_foresee_13 : decode cX4_foresee 13 = .ok (.getfield 16, 3) := by decide +kernel
theorem dX4_foresee_16 : decode cX4_foresee 16 = .ok (.aload_n 0, 1) := by decide +kernel
theorem dX4_foresee_17 : decode cX4_foresee 17 = .ok (.getfield 10, 3) := by decide +kernel
theorem dX4_foresee_20 : decode cX4_foresee 20 = .ok (.invokevirtual 136, 3) := by decide +kernel
theorem dX4_foresee_23 : decode cX4_foresee 23 = .ok (.aload_n 0, 1) := by decide +kernel
theorem dX4_foresee_24 : decode cX4_foresee 24 = .ok (.getfield 16, 3) := by decide +kernel
theorem dX4_foresee_27 : decode cX4_foresee 27 = .ok (.iload_n 1, 1) := by decide +kernel
theorem dX4_foresee_28 : decode cX4_foresee 28 = .ok (.iload_n 2, 1) := by decide +kernel
theorem dX4_foresee_29 : decode cX4_foresee 29 = .ok (.invokevirtual 140, 3) := by decide +kernel
theorem dX4_foresee_32 : decode cX4_foresee 32 = .ok (.ireturn, 1) := by decide +kernel
set_option maxRecDepth 20000 in
theorem ggX4_advise_X4_checkOrgan : GoodIn wsX4_advise wsX4_checkOrgan := goodIn_ca (goodIn_r _ [10, 1, 11, 12, 13, 9, 14, 15, 16, 189, 190, 191, 192, 193, 194, 195, 196] (by decide +kernel) (by decide +kernel)) (goodIn_sub (fun _ h => List.mem_cons_of_mem _ (List.mem_append_left _ (List.mem_append_right _ h))) (by decide +kernel))
set_option maxRecDepth 20000 in
theorem gX4_advise_X4_checkOrgan : GoodIn wsX4_advise (wsV RX4 85 RX4 yX4_checkOrgan wsX4_checkOrgan) := goodIn_app (goodIn_of _ (by decide +kernel)) ggX4_advise_X4_checkOrgan
set_option maxRecDepth 20000 in
theorem ggX4_advise_X4_checkStreet : GoodIn wsX4_advise wsX4_checkStreet := goodIn_ca (goodIn_r _ [20, 1, 21, 12, 13, 9, 14, 15, 16, 189, 190, 191, 192, 193, 194, 195, 196] (by decide +kernel) (by decide +kernel)) (goodIn_sub (fun _ h => List.mem_cons_of_mem _ (List.mem_append_left _ (List.mem_append_right _ h))) (by decide +kernel))
set_option maxRecDepth 20000 in
theorem gX4_advise_X4_checkStreet : GoodIn wsX4_advise (wsV RX4 45 RX4 yX4_checkStreet wsX4_checkStreet) := goodIn_app (goodIn_of _ (by decide +kernel)) ggX4_advise_X4_checkStreet
set_option maxRecDepth 20000 in
theorem ggX4_advise_X4_checkRange : GoodIn wsX4_advise wsX4_checkRange := goodIn_ca (goodIn_r _ [24, 25, 26] (by decide +kernel) (by decide +kernel)) (goodIn_sub (fun _ h => List.mem_cons_of_mem _ (List.mem_append_right _ h)) (by decide +kernel))
set_option maxRecDepth 20000 in
theorem gX4_advise_X4_checkRange : GoodIn wsX4_advise (va_wsS RX4 26 yX4_checkRange wsX4_checkRange) := goodIn_app (goodIn_of _ (by decide +kernel)) ggX4_advise_X4_checkRange
set_option maxRecDepth 20000 in
theorem ggX4_advise_X3_copyFrom : GoodIn wsX4_advise wsX3_copyFrom := goodIn_r _ [31, 32, 33, 34, 35, 36, 37, 38, 39, 40, 41, 42, 43, 44, 45, 46, 47, 48, 49, 50, 51, 52, 53, 54, 55, 56, 57, 58, 59, 60, 61, 62, 63, 64, 65, 66, 67, 68, 69, 192, 193, 194, 195, 196, 197, 198, 199, 200, 201, 202, 203, 204, 205, 206, 207, 208, 209, 210, 211, 212, 213, 214] (by decide +kernel) (by decide +kernel)
set_option maxRecDepth 20000 in
theorem gX4_advise_X3_copyFrom : GoodIn wsX4_advise (wsV RX4 136 RX3 yX3_copyFrom wsX3_copyFrom) := goodIn_app (goodIn_of _ (by decide +kernel)) ggX4_advise_X3_copyFrom
set_option maxRecDepth 20000 in
theorem ggX4_advise_X0_moveTo : GoodIn wsX4_advise wsX0_moveTo := goodIn_r _ [73, 62, 63, 64, 203, 204, 205, 206, 207, 208, 209, 210, 211, 212, 213, 214] (by decide +kernel) (by decide +kernel)
set_option maxRecDepth 20000 in
theorem gX4_advise_X0_moveTo : GoodIn wsX4_advise (wsV RX4 117 RX0 yX0_moveTo wsX0_moveTo) := goodIn_app (goodIn_of _ (by decide +kernel)) ggX4_advise_X0_moveTo
set_option maxRecDepth 20000 in
theorem ggX4_advise_X3_coinsGot : GoodIn wsX4_advise wsX3_coinsGot := goodIn_r _ [77, 36, 78, 79, 80, 81, 30, 82, 32, 33, 34, 83, 84, 85, 86, 35, 87, 88, 89, 90, 91, 92, 93, 94, 95, 55, 96, 64, 62, 97, 98, 99, 100, 101, 102, 103, 104, 65, 63, 105, 106, 107, 108, 109, 110, 111, 112, 113, 114, 115, 116, 117, 118, 119, 120, 121, 122, 123, 124, 125, 126, 127, 128, 129, 69, 57, 130, 131, 132, 133, 134, 135, 136, 137, 138, 139, 140, 141, 142, 143, 144, 145, 146, 147, 148, 149, 40, 150, 48, 151, 152, 153, 154, 155, 156, 157, 158, 159, 160, 161, 162, 163, 59, 164, 68, 165, 166, 167, 168, 169, 170, 171, 172, 173, 174, 175, 176, 177, 178, 179, 180, 181, 182, 183, 184, 71, 72, 73, 185, 186, 187, 188, 61, 192, 193, 194, 195, 196, 203, 204, 205, 206, 207, 208, 209, 210, 211, 212, 213, 214, 197, 198, 199, 200, 201, 202] (by decide +kernel) (by decide +kernel)
set_option maxRecDepth 20000 in
theorem gX4_advise_X3_coinsGot : GoodIn wsX4_advise (wsV RX4 140 RX3 yX3_coinsGot wsX3_coinsGot) := goodIn_app (goodIn_of _ (by decide +kernel)) ggX4_advise_X3_coinsGot
theorem dX4_advise_0 : decode cX4_advise 0 = .ok (.aload_n 0, 1) := by decide +kernel
theorem dX4_advise_1 : decode cX4_advise 1 = .ok (.iload_n 1, 1) := by decide +kernel
theorem dX4_advise_2 : decode cX4_advise 2 = .ok (.invokevirtual 85, 3) := by decide +kernel
theorem dX4_advise_5 : decode cX4_advise 5 = .ok (.aload_n 0, 1) := by decide +kernel
theorem dX4_advise_6 : decode cX4_advise 6 = .ok (.iload_n 2, 1) := by decide +kernel
theorem dX4_advise_7 : decode cX4_advise 7 = .ok (.invokevirtual 45, 3) := by decide +kernel
theorem dX4_advise_10 : decode cX4_advise 10 = .ok (.iload_n 3, 1) := by decide +kernel
theorem dX4_advise_11 : decode cX4_advise 11 = .ok (.iconst 1, 1) := by decide +kernel
theorem dX4_advise_12 : decode cX4_advise 12 = .ok (.bipush 24, 2) := by decide +kernel
theorem dX4_advise_14 : decode cX4_advise 14 = .ok (.invokestatic 26, 3) := by decide +kernel
theorem dX4_advise_17 : decode cX4_advise 17 = .ok (.iconst 0, 1) := by decide +kernel
theorem dX4_advise_18 : decode cX4_advise 18 = .ok (.istore 4, 2) := by decide +kernel
theorem dX4_advise_20 : decode cX4_advise 20 = .ok (.iconst (-1), 1) := by decide +kernel
theorem dX4_advise_21 : decode cX4_advise 21 = .ok (.istore 5, 2) := by decide +kernel
theorem dX4_advise_23 : decode cX4_advise 23 = .ok (.iconst 0, 1) := by decide +kernel
theorem dX4_advise_24 : decode cX4_advise 24 = .ok (.istore 6, 2) := by decide +kernel
theorem dX4_advise_26 : decode cX4_advise 26 = .ok (.iload 6, 2) := by decide +kernel
theorem dX4_advise_28 : decode cX4_advise 28 = .ok (.aload_n 0, 1) := by decide +kernel
theorem dX4_advise_29 : decode cX4_advise 29 = .ok (.getfield 10, 3) := by decide +kernel
theorem dX4_advise_32 : decode cX4_advise 32 = .ok (.getfield 53, 3) := by decide +kernel
theorem dX4_advise_35 : decode cX4_advise 35 = .ok (.iload_n 2, 1) := by decide +kernel
theorem dX4_advise_36 : decode cX4_advise 36 = .ok (.aaload, 1) := by decide +kernel
theorem dX4_advise_37 : decode cX4_advise 37 = .ok (.getfield 143, 3) := by decide +kernel
theorem dX4_advise_40 : decode cX4_advise 40 = .ok (.if_icmp .ge 62, 3) := by decide +kernel
theorem dX4_advise_43 : decode cX4_advise 43 = .ok (.aload_n 0, 1) := by decide +kernel
theorem dX4_advise_44 : decode cX4_advise 44 = .ok (.getfield 16, 3) := by decide +kernel
theorem dX4_advise_47 : decode cX4_advise 47 = .ok (.aload_n 0, 1) := by decide +kernel
theorem dX4_advise_48 : decode cX4_advise 48 = .ok (.getfield 10, 3) := by decide +kernel
theorem dX4_advise_51 : decode cX4_advise 51 = .ok (.invokevirtual 136, 3) := by decide +kernel
theorem dX4_advise_54 : decode cX4_advise 54 = .ok (.aload_n 0, 1) := by decide +kernel
theorem dX4_advise_55 : decode cX4_advise 55 = .ok (.getfield 16, 3) := by decide +kernel
theorem dX4_advise_58 : decode cX4_advise 58 = .ok (.getfield 97, 3) := by decide +kernel
theorem dX4_advise_61 : decode cX4_advise 61 = .ok (.iload_n 1, 1) := by decide +kernel
theorem dX4_advise_62 : decode cX4_advise 62 = .ok (.aaload, 1) := by decide +kernel
theorem dX4_advise_63 : decode cX4_advise 63 = .ok (.iload_n 2, 1) := by decide +kernel
theorem dX4_advise_64 : decode cX4_advise 64 = .ok (.iload 6, 2) := by decide +kernel
theorem dX4_advise_66 : decode cX4_advise 66 = .ok (.iconst 0, 1) := by decide +kernel
theorem dX4_advise_67 : decode cX4_advise 67 = .ok (.invokevirtual 117, 3) := by decide +kernel
theorem dX4_advise_70 : decode cX4_advise 70 = .ok (.aload_n 0, 1) := by decide +kernel
theorem dX4_advise_71 : decode cX4_advise 71 = .ok (.getfield 16, 3) := by decide +kernel
theorem dX4_advise_74 : decode cX4_advise 74 = .ok (.iload_n 1, 1) := by decide +kernel
theorem dX4_advise_75 : decode cX4_advise 75 = .ok (.iload_n 3, 1) := by decide +kernel
theorem dX4_advise_76 : decode cX4_advise 76 = .ok (.invokevirtual 140, 3) := by decide +kernel
theorem dX4_advise_79 : decode cX4_advise 79 = .ok (.istore 7, 2) := by decide +kernel
theorem dX4_advise_81 : decode cX4_advise 81 = .ok (.iload 7, 2) := by decide +kernel
theorem dX4_advise_83 : decode cX4_advise 83 = .ok (.iload 5, 2) := by decide +kernel
theorem dX4_advise_85 : decode cX4_advise 85 = .ok (.if_icmp .le 11, 3) := by decide +kernel
theorem dX4_advise_88 : decode cX4_advise 88 = .ok (.iload 7, 2) := by decide +kernel
theorem dX4_advise_90 : decode cX4_advise 90 = .ok (.istore 5, 2) := by decide +kernel
theorem dX4_advise_92 : decode cX4_advise 92 = .ok (.iload 6, 2) := by decide +kernel
theorem dX4_advise_94 : decode cX4_advise 94 = .ok (.istore 4, 2) := by decide +kernel
theorem dX4_advise_96 : decode cX4_advise 96 = .ok (.iinc 6 1, 3) := by decide +kernel
theorem dX4_advise_99 : decode cX4_advise 99 = .ok (.goto (-73), 3) := by decide +kernel
theorem dX4_advise_102 : decode cX4_advise 102 = .ok (.iload 4, 2) := by decide +kernel
theorem dX4_advise_104 : decode cX4_advise 104 = .ok (.ireturn, 1) := by decide +kernel
set_option maxRecDepth 20000 in
theorem ggX4_census_X1_writeText : GoodIn wsX4_census wsX1_writeText := goodIn_r _ [14, 15, 16, 17, 18, 19, 20, 21, 22, 23, 24, 25, 26, 27, 28, 29, 30, 31, 32, 33, 34, 35, 36, 37, 38, 39, 40, 41, 42, 43, 44, 45, 46, 47, 48, 49, 50, 51, 52, 53, 54, 55, 56, 57, 58, 59, 60, 61, 62, 63, 64, 65, 66, 13, 67, 68, 69, 129, 130, 131, 132, 104, 105] (by decide +kernel) (by decide +kernel)
set_option maxRecDepth 20000 in
theorem gX4_census_X1_writeText : GoodIn wsX4_census (wsV RX4 148 RX1 yX1_writeText wsX1_writeText) := goodIn_app (goodIn_of _ (by decide +kernel)) ggX4_census_X1_writeText
set_option maxRecDepth 20000 in
theorem ggX4_census_X1_writeByte : GoodIn wsX4_census wsX1_writeByte := goodIn_r _ [67, 68, 69, 104, 105] (by decide +kernel) (by decide +kernel)
set_option maxRecDepth 20000 in
theorem gX4_census_X1_writeByte : GoodIn wsX4_census (wsV RX4 151 RX1 yX1_writeByte wsX1_writeByte) := goodIn_app (goodIn_of _ (by decide +kernel)) ggX4_census_X1_writeByte
set_option maxRecDepth 20000 in
theorem ggX4_census_X3_standingIn : GoodIn wsX4_census wsX3_standingIn := goodIn_r _ [75, 76, 77, 78, 79, 80, 81, 82, 83, 84, 106, 107, 108, 109, 110, 117, 118, 119, 120, 121, 122, 123, 124, 125, 126, 127, 128] (by decide +kernel) (by decide +kernel)
set_option maxRecDepth 20000 in
theorem gX4_census_X3_standingIn : GoodIn wsX4_census (wsV RX4 154 RX3 yX3_standingIn wsX3_standingIn) := goodIn_app (goodIn_of _ (by decide +kernel)) ggX4_census_X3_standingIn
set_option maxRecDepth 20000 in
theorem ggX4_census_X1_writeLine : GoodIn wsX4_census wsX1_writeLine := goodIn_r _ [88, 89, 90, 91, 13, 92, 93, 94, 64, 65, 66, 67, 68, 69, 104, 105] (by decide +kernel) (by decide +kernel)
set_option maxRecDepth 20000 in
theorem gX4_census_X1_writeLine : GoodIn wsX4_census (wsV RX4 160 RX1 yX1_writeLine wsX1_writeLine) := goodIn_app (goodIn_of _ (by decide +kernel)) ggX4_census_X1_writeLine
set_option maxRecDepth 20000 in
theorem ggX4_census_X0_nextTune : GoodIn wsX4_census wsX0_nextTune := goodIn_r _ [98, 99, 100, 117, 118, 119, 120, 121, 122, 123, 124, 125, 126, 127, 128] (by decide +kernel) (by decide +kernel)
set_option maxRecDepth 20000 in
theorem gX4_census_X0_nextTune : GoodIn wsX4_census (wsV RX4 166 RX0 yX0_nextTune wsX0_nextTune) := goodIn_app (goodIn_of _ (by decide +kernel)) ggX4_census_X0_nextTune
theorem dX4_census_0 : decode cX4_census 0 = .ok (.aload_n 0, 1) := by decide +kernel
theorem dX4_census_1 : decode cX4_census 1 = .ok (.getfield 22, 3) := by decide +kernel
theorem dX4_census_4 : decode cX4_census 4 = .ok (.iconst 0, 1) := by decide +kernel
theorem dX4_census_5 : decode cX4_census 5 = .ok (.putfield 130, 3) := by decide +kernel
theorem dX4_census_8 : decode cX4_census 8 = .ok (.aload_n 0, 1) := by decide +kernel
theorem dX4_census_9 : decode cX4_census 9 = .ok (.getfield 22, 3) := by decide +kernel
theorem dX4_census_12 : decode cX4_census 12 = .ok (.ldc 146, 2) := by decide +kernel
theorem dX4_census_14 : decode cX4_census 14 = .ok (.invokevirtual 148, 3) := by decide +kernel
theorem dX4_census_17 : decode cX4_census 17 = .ok (.aload_n 0, 1) := by decide +kernel
theorem dX4_census_18 : decode cX4_census 18 = .ok (.getfield 22, 3) := by decide +kernel
theorem dX4_census_21 : decode cX4_census 21 = .ok (.bipush 10, 2) := by decide +kernel
theorem dX4_census_23 : decode cX4_census 23 = .ok (.invokevirtual 151, 3) := by decide +kernel
theorem dX4_census_26 : decode cX4_census 26 = .ok (.iconst 0, 1) := by decide +kernel
theorem dX4_census_27 : decode cX4_census 27 = .ok (.istore_n 1, 1) := by decide +kernel
theorem dX4_census_28 : decode cX4_census 28 = .ok (.iload_n 1, 1) := by decide +kernel
theorem dX4_census_29 : decode cX4_census 29 = .ok (.aload_n 0, 1) := by decide +kernel
theorem dX4_census_30 : decode cX4_census 30 = .ok (.getfield 10, 3) := by decide +kernel
theorem dX4_census_33 : decode cX4_census 33 = .ok (.getfield 30, 3) := by decide +kernel
theorem dX4_census_36 : decode cX4_census 36 = .ok (.if_icmp .ge 37, 3) := by decide +kernel
theorem dX4_census_39 : decode cX4_census 39 = .ok (.aload_n 0, 1) := by decide +kernel
theorem dX4_census_40 : decode cX4_census 40 = .ok (.getfield 22, 3) := by decide +kernel
theorem dX4_census_43 : decode cX4_census 43 = .ok (.iload_n 1, 1) := by decide +kernel
theorem dX4_census_44 : decode cX4_census 44 = .ok (.aload_n 0, 1) := by decide +kernel
theorem dX4_census_45 : decode cX4_census 45 = .ok (.getfield 10, 3) := by decide +kernel
theorem dX4_census_48 : decode cX4_census 48 = .ok (.iload_n 1, 1) := by decide +kernel
theorem dX4_census_49 : decode cX4_census 49 = .ok (.invokevirtual 154, 3) := by decide +kernel
theorem dX4_census_52 : decode cX4_census 52 = .ok (.aload_n 0, 1) := by decide +kernel
theorem dX4_census_53 : decode cX4_census 53 = .ok (.getfield 10, 3) := by decide +kernel
theorem dX4_census_56 : decode cX4_census 56 = .ok (.getfield 53, 3) := by decide +kernel
theorem dX4_census_59 : decode cX4_census 59 = .ok (.iload_n 1, 1) := by decide +kernel
theorem dX4_census_60 : decode cX4_census 60 = .ok (.aaload, 1) := by decide +kernel
theorem dX4_census_61 : decode cX4_census 61 = .ok (.getfield 157, 3) := by decide +kernel
theorem dX4_census_64 : decode cX4_census 64 = .ok (.invokevirtual 160, 3) := by decide +kernel
theorem dX4_census_67 : decode cX4_census 67 = .ok (.iinc 1 1, 3) := by decide +kernel
theorem dX4_census_70 : decode cX4_census 70 = .ok (.goto (-42), 3) := by decide +kernel
theorem dX4_census_73 : decode cX4_census 73 = .ok (.aload_n 0, 1) := by decide +kernel
theorem dX4_census_74 : decode cX4_census 74 = .ok (.getfield 22, 3) := by decide +kernel
theorem dX4_census_77 : decode cX4_census 77 = .ok (.ldc 163, 2) := by decide +kernel
theorem dX4_census_79 : decode cX4_census 79 = .ok (.invokevirtual 148, 3) := by decide +kernel
theorem dX4_census_82 : decode cX4_census 82 = .ok (.aload_n 0, 1) := by decide +kernel
theorem dX4_census_83 : decode cX4_census 83 = .ok (.getfield 22, 3) := by decide +kernel
theorem dX4_census_86 : decode cX4_census 86 = .ok (.bipush 10, 2) := by decide +kernel
theorem dX4_census_88 : decode cX4_census 88 = .ok (.invokevirtual 151, 3) := by decide +kernel
theorem dX4_census_91 : decode cX4_census 91 = .ok (.iconst 0, 1) := by decide +kernel
theorem dX4_census_92 : decode cX4_census 92 = .ok (.istore_n 1, 1) := by decide +kernel
theorem dX4_census_93 : decode cX4_census 93 = .ok (.iload_n 1, 1) := by decide +kernel
theorem dX4_census_94 : decode cX4_census 94 = .ok (.aload_n 0, 1) := by decide +kernel
theorem dX4_census_95 : decode cX4_census 95 = .ok (.getfield 10, 3) := by decide +kernel
theorem dX4_census_98 : decode cX4_census 98 = .ok (.getfield 76, 3) := by decide +kernel
theorem dX4_census_101 : decode cX4_census 101 = .ok (.if_icmp .ge 41, 3) := by decide +kernel
theorem dX4_census_104 : decode cX4_census 104 = .ok (.aload_n 0, 1) := by decide +kernel
theorem dX4_census_105 : decode cX4_census 105 = .ok (.getfield 22, 3) := by decide +kernel
theorem dX4_census_108 : decode cX4_census 108 = .ok (.iload_n 1, 1) := by decide +kernel
theorem dX4_census_109 : decode cX4_census 109 = .ok (.aload_n 0, 1) := by decide +kernel
theorem dX4_census_110 : decode cX4_census 110 = .ok (.getfield 10, 3) := by decide +kernel
theorem dX4_census_113 : decode cX4_census 113 = .ok (.getfield 97, 3) := by decide +kernel
theorem dX4_census_116 : decode cX4_census 116 = .ok (.iload_n 1, 1) := by decide +kernel
theorem dX4_census_117 : decode cX4_census 117 = .ok (.aaload, 1) := by decide +kernel
theorem dX4_census_118 : decode cX4_census 118 = .ok (.getfield 165, 3) := by decide +kernel
theorem dX4_census_121 : decode cX4_census 121 = .ok (.aload_n 0, 1) := by decide +kernel
theorem dX4_census_122 : decode cX4_census 122 = .ok (.getfield 10, 3) := by decide +kernel
theorem dX4_census_125 : decode cX4_census 125 = .ok (.getfield 97, 3) := by decide +kernel
theorem dX4_census_128 : decode cX4_census 128 = .ok (.iload_n 1, 1) := by decide +kernel
theorem dX4_census_129 : decode cX4_census 129 = .ok (.aaload, 1) := by decide +kernel
theorem dX4_census_130 : decode cX4_census 130 = .ok (.invokevirtual 166, 3) := by decide +kernel
theorem dX4_census_133 : decode cX4_census 133 = .ok (.invokevirtual 160, 3) := by decide +kernel
theorem dX4_census_136 : decode cX4_census 136 = .ok (.iinc 1 1, 3) := by decide +kernel
theorem dX4_census_139 : decode cX4_census 139 = .ok (.goto (-46), 3) := by decide +kernel
theorem dX4_census_142 : decode cX4_census 142 = .ok (.aload_n 0, 1) := by decide +kernel
theorem dX4_census_143 : decode cX4_census 143 = .ok (.getfield 22, 3) := by decide +kernel
theorem dX4_census_146 : decode cX4_census 146 = .ok (.getfield 130, 3) := by decide +kernel
theorem dX4_census_149 : decode cX4_census 149 = .ok (.ireturn, 1) := by decide +kernel
set_option maxRecDepth 20000 in
theorem ggX4_byteAt_X4_checkIndex : GoodIn wsX4_byteAt wsX4_checkIndex := goodIn_ca (goodIn_r _ [7, 8, 9] (by decide +kernel) (by decide +kernel)) (goodIn_sub (fun _ h => List.mem_cons_of_mem _ (List.mem_append_right _ h)) (by decide +kernel))
set_option maxRecDepth 20000 in
theorem gX4_byteAt_X4_checkIndex : GoodIn wsX4_byteAt (va_wsS RX4 49 yX4_checkIndex wsX4_checkIndex) := goodIn_app (goodIn_of _ (by decide +kernel)) ggX4_byteAt_X4_checkIndex
theorem dX4_byteAt_0 : decode cX4_byteAt 0 = .ok (.iload_n 1, 1) := by decide +kernel
theorem dX4_byteAt_1 : decode cX4_byteAt 1 = .ok (.aload_n 0, 1) := by decide +kernel
theorem dX4_byteAt_2 : decode cX4_byteAt 2 = .ok (.getfield 22, 3) := by decide +kernel
theorem dX4_byteAt_5 : decode cX4_byteAt 5 = .ok (.getfield 130, 3) := by decide +kernel
theorem dX4_byteAt_8 : decode cX4_byteAt 8 = .ok (.invokestatic 49, 3) := by decide +kernel
theorem dX4_byteAt_11 : decode cX4_byteAt 11 = .ok (.aload_n 0, 1) := by decide +kernel
theorem dX4_byteAt_12 : decode cX4_byteAt 12 = .ok (.getfield 22, 3) := by decide +kernel
theorem dX4_byteAt_15 : decode cX4_byteAt 15 = .ok (.getfield 169, 3) := by decide +kernel
theorem dX4_byteAt_18 : decode cX4_byteAt 18 = .ok (.iload_n 1, 1) := by decide +kernel
theorem dX4_byteAt_19 : decode cX4_byteAt 19 = .ok (.baload, 1) := by decide +kernel
theorem dX4_byteAt_20 : decode cX4_byteAt 20 = .ok (.ireturn, 1) := by decide +kernel
set_option maxRecDepth 20000 in
theorem ggX4_mean_X3_coinsOfAll : GoodIn wsX4_mean wsX3_coinsOfAll := goodIn_r _ [7, 8, 9, 10, 14, 15, 16, 17, 18, 19, 20, 21, 22, 23, 24, 25, 26, 27, 28, 29, 30] (by decide +kernel) (by decide +kernel)
set_option maxRecDepth 20000 in
theorem gX4_mean_X3_coinsOfAll : GoodIn wsX4_mean (wsV RX4 173 RX3 yX3_coinsOfAll wsX3_coinsOfAll) := goodIn_app (goodIn_of _ (by decide +kernel)) ggX4_mean_X3_coinsOfAll
theorem dX4_mean_0 : decode cX4_mean 0 = .ok (.aload_n 0, 1) := by decide +kernel
theorem dX4_mean_1 : decode cX4_mean 1 = .ok (.getfield 10, 3) := by decide +kernel
theorem dX4_mean_4 : decode cX4_mean 4 = .ok (.getfield 76, 3) := by decide +kernel
theorem dX4_mean_7 : decode cX4_mean 7 = .ok (.ifCond .ne 5, 3) := by decide +kernel
theorem dX4_mean_10 : decode cX4_mean 10 = .ok (.dconst 0, 1) := by decide +kernel
theorem dX4_mean_11 : decode cX4_mean 11 = .ok (.dreturn, 1) := by decide +kernel
theorem dX4_mean_12 : decode cX4_mean 12 = .ok (.aload_n 0, 1) := by decide +kernel
theorem dX4_mean_13 : decode cX4_mean 13 = .ok (.getfield 10, 3) := by decide +kernel
theorem dX4_mean_16 : decode cX4_mean 16 = .ok (.invokevirtual 173, 3) := by decide +kernel
theorem dX4_mean_19 : decode cX4_mean 19 = .ok (.i2d, 1) := by decide +kernel
theorem dX4_mean_20 : decode cX4_mean 20 = .ok (.aload_n 0, 1) := by decide +kernel
theorem dX4_mean_21 : decode cX4_mean 21 = .ok (.getfield 10, 3) := by decide +kernel
theorem dX4_mean_24 : decode cX4_mean 24 = .ok (.getfield 76, 3) := by decide +kernel
theorem dX4_mean_27 : decode cX4_mean 27 = .ok (.i2d, 1) := by decide +kernel
theorem dX4_mean_28 : decode cX4_mean 28 = .ok (.ddiv, 1) := by decide +kernel
theorem dX4_mean_29 : decode cX4_mean 29 = .ok (.dreturn, 1) := by decide +kernel
set_option maxRecDepth 20000 in
theorem ggX4_digest_X4_count : GoodIn wsX4_digest wsX4_count := goodIn_ca (goodIn_r _ [12, 5, 6, 2, 13, 14, 11, 15, 16, 17, 18, 19, 20, 21, 22, 23, 24, 25, 26, 27, 28, 29, 30, 31, 32, 33, 34, 35, 36, 37, 38, 39, 40, 41, 42, 43, 44, 45, 46, 47, 48, 49, 50, 51, 52, 53, 54, 55, 56, 57, 58, 59, 60, 61, 62, 63, 64, 148, 149, 150, 156, 157, 151, 152, 153, 154, 155, 158, 159, 160, 161, 162, 163, 164, 165, 166, 167, 168, 169] (by decide +kernel) (by decide +kernel)) (goodIn_sub (fun _ h => List.mem_cons_of_mem _ (List.mem_append_right _ h)) (by decide +kernel))
set_option maxRecDepth 20000 in
theorem gX4_digest_X4_count : GoodIn wsX4_digest (wsV RX4 178 RX4 yX4_count wsX4_count) := goodIn_app (goodIn_of _ (by decide +kernel)) ggX4_digest_X4_count
set_option maxRecDepth 20000 in
theorem ggX4_digest_X4_mix : GoodIn wsX4_digest wsX4_mix := goodIn_r _ [67, 68] (by decide +kernel) (by decide +kernel)
set_option maxRecDepth 20000 in
theorem gX4_digest_X4_mix : GoodIn wsX4_digest (va_wsS RX4 181 yX4_mix wsX4_mix) := goodIn_app (goodIn_of _ (by decide +kernel)) ggX4_digest_X4_mix
set_option maxRecDepth 20000 in
theorem ggX4_digest_X4_mixStreet : GoodIn wsX4_digest wsX4_mixStreet := goodIn_r _ [72, 2, 73, 74, 75, 76, 77, 78, 21, 79, 80, 81, 82, 83, 84, 85, 86, 87, 88, 23, 89, 90, 91, 92, 30, 31, 32, 33, 25, 34, 35, 36, 37, 38, 39, 40, 41, 51, 52, 53, 54, 55, 93, 94, 95, 96, 97, 98, 99, 100, 101, 102, 103, 104, 105, 106, 107, 108, 109, 110, 111, 112, 113, 114, 115, 116, 117, 118, 65, 66, 11, 67, 68, 148, 149, 150, 151, 152, 153, 154, 155, 170, 171, 172, 173, 174, 175, 158, 159, 160, 161, 162, 163, 164, 165, 166, 167, 168, 169] (by decide +kernel) (by decide +kernel)
set_option maxRecDepth 20000 in
theorem gX4_digest_X4_mixStreet : GoodIn wsX4_digest (wsV RX4 185 RX4 yX4_mixStreet wsX4_mixStreet) := goodIn_app (goodIn_of _ (by decide +kernel)) ggX4_digest_X4_mixStreet
set_option maxRecDepth 20000 in
theorem ggX4_digest_X4_mixOrgan : GoodIn wsX4_digest wsX4_mixOrgan := goodIn_r _ [122, 2, 123, 3, 124, 125, 126, 127, 38, 128, 41, 106, 40, 105, 129, 130, 131, 132, 133, 134, 135, 136, 137, 138, 139, 140, 141, 142, 143, 144, 145, 146, 147, 61, 62, 63, 64, 65, 66, 11, 67, 68, 148, 149, 150, 151, 152, 153, 154, 155, 158, 159, 160, 161, 162, 163, 164, 165, 166, 167, 168, 169] (by decide +kernel) (by decide +kernel)
set_option maxRecDepth 20000 in
theorem gX4_digest_X4_mixOrgan : GoodIn wsX4_digest (wsV RX4 188 RX4 yX4_mixOrgan wsX4_mixOrgan) := goodIn_app (goodIn_of _ (by decide +kernel)) ggX4_digest_X4_mixOrgan
theorem dX4_digest_0 : decode cX4_digest 0 = .ok (.ldc2_w 176, 3) := by decide +kernel
theorem dX4_digest_3 : decode cX4_digest 3 = .ok (.lstore_n 1, 1) := by decide +kernel
theorem dX4_digest_4 : decode cX4_digest 4 = .ok (.iconst 0, 1) := by decide +kernel
theorem dX4_digest_5 : decode cX4_digest 5 = .ok (.istore_n 3, 1) := by decide +kernel
theorem dX4_digest_6 : decode cX4_digest 6 = .ok (.iload_n 3, 1) := by decide +kernel
theorem dX4_digest_7 : decode cX4_digest 7 = .ok (.bipush 8, 2) := by decide +kernel
theorem dX4_digest_9 : decode cX4_digest 9 = .ok (.if_icmp .ge 19, 3) := by decide +kernel
theorem dX4_digest_12 : decode cX4_digest 12 = .ok (.lload_n 1, 1) := by decide +kernel
theorem dX4_digest_13 : decode cX4_digest 13 = .ok (.aload_n 0, 1) := by decide +kernel
theorem dX4_digest_14 : decode cX4_digest 14 = .ok (.iload_n 3, 1) := by decide +kernel
theorem dX4_digest_15 : decode cX4_digest 15 = .ok (.invokevirtual 178, 3) := by decide +kernel
theorem dX4_digest_18 : decode cX4_digest 18 = .ok (.invokestatic 181, 3) := by decide +kernel
theorem dX4_digest_21 : decode cX4_digest 21 = .ok (.lstore_n 1, 1) := by decide +kernel
theorem dX4_digest_22 : decode cX4_digest 22 = .ok (.iinc 3 1, 3) := by decide +kernel
theorem dX4_digest_25 : decode cX4_digest 25 = .ok (.goto (-19), 3) := by decide +kernel
theorem dX4_digest_28 : decode cX4_digest 28 = .ok (.iconst 0, 1) := by decide +kernel
theorem dX4_digest_29 : decode cX4_digest 29 = .ok (.istore_n 3, 1) := by decide +kernel
theorem dX4_digest_30 : decode cX4_digest 30 = .ok (.iload_n 3, 1) := by decide +kernel
theorem dX4_digest_31 : decode cX4_digest 31 = .ok (.aload_n 0, 1) := by decide +kernel
theorem dX4_digest_32 : decode cX4_digest 32 = .ok (.getfield 10, 3) := by decide +kernel
theorem dX4_digest_35 : decode cX4_digest 35 = .ok (.getfield 30, 3) := by decide +kernel
theorem dX4_digest_38 : decode cX4_digest 38 = .ok (.if_icmp .ge 16, 3) := by decide +kernel
theorem dX4_digest_41 : decode cX4_digest 41 = .ok (.aload_n 0, 1) := by decide +kernel
theorem dX4_digest_42 : decode cX4_digest 42 = .ok (.lload_n 1, 1) := by decide +kernel
theorem dX4_digest_43 : decode cX4_digest 43 = .ok (.iload_n 3, 1) := by decide +kernel
theorem dX4_digest_44 : decode cX4_digest 44 = .ok (.invokevirtual 185, 3) := by decide +kernel
theorem dX4_digest_47 : decode cX4_digest 47 = .ok (.lstore_n 1, 1) := by decide +kernel
theorem dX4_digest_48 : decode cX4_digest 48 = .ok (.iinc 3 1, 3) := by decide +kernel
theorem dX4_digest_51 : decode cX4_digest 51 = .ok (.goto (-21), 3) := by decide +kernel
theorem dX4_digest_54 : decode cX4_digest 54 = .ok (.iconst 0, 1) := by decide +kernel
theorem dX4_digest_55 : decode cX4_digest 55 = .ok (.istore_n 3, 1) := by decide +kernel
theorem dX4_digest_56 : decode cX4_digest 56 = .ok (.iload_n 3, 1) := by decide +kernel
theorem dX4_digest_57 : decode cX4_digest 57 = .ok (.aload_n 0, 1) := by decide +kernel
theorem dX4_digest_58 : decode cX4_digest 58 = .ok (.getfield 10, 3) := by decide +kernel
theorem dX4_digest_61 : decode cX4_digest 61 = .ok (.getfield 76, 3) := by decide +kernel
theorem dX4_digest_64 : decode cX4_digest 64 = .ok (.if_icmp .ge 16, 3) := by decide +kernel
theorem dX4_digest_67 : decode cX4_digest 67 = .ok (.aload_n 0, 1) := by decide +kernel
theorem dX4_digest_68 : decode cX4_digest 68 = .ok (.lload_n 1, 1) := by decide +kernel
theorem dX4_digest_69 : decode cX4_digest 69 = .ok (.iload_n 3, 1) := by decide +kernel
theorem dX4_digest_70 : decode cX4_digest 70 = .ok (.invokevirtual 188, 3) := by decide +kernel
theorem dX4_digest_73 : decode cX4_digest 73 = .ok (.lstore_n 1, 1) := by decide +kernel
theorem dX4_digest_74 : decode cX4_digest 74 = .ok (.iinc 3 1, 3) := by decide +kernel
theorem dX4_digest_77 : decode cX4_digest 77 = .ok (.goto (-21), 3) := by decide +kernel
theorem dX4_digest_80 : decode cX4_digest 80 = .ok (.iconst 0, 1) := by decide +kernel
theorem dX4_digest_81 : decode cX4_digest 81 = .ok (.istore_n 3, 1) := by decide +kernel
theorem dX4_digest_82 : decode cX4_digest 82 = .ok (.iload_n 3, 1) := by decide +kernel
theorem dX4_digest_83 : decode cX4_digest 83 = .ok (.aload_n 0, 1) := by decide +kernel
theorem dX4_digest_84 : decode cX4_digest 84 = .ok (.getfield 22, 3) := by decide +kernel
theorem dX4_digest_87 : decode cX4_digest 87 = .ok (.getfield 130, 3) := by decide +kernel
theorem dX4_digest_90 : decode cX4_digest 90 = .ok (.if_icmp .ge 23, 3) := by decide +kernel
theorem dX4_digest_93 : decode cX4_digest 93 = .ok (.lload_n 1, 1) := by decide +kernel
theorem dX4_digest_94 : decode cX4_digest 94 = .ok (.aload_n 0, 1) := by decide +kernel
theorem dX4_digest_95 : decode cX4_digest 95 = .ok (.getfield 22, 3) := by decide +kernel
theorem dX4_digest_98 : decode cX4_digest 98 = .ok (.getfield 169, 3) := by decide +kernel
theorem dX4_digest_101 : decode cX4_digest 101 = .ok (.iload_n 3, 1) := by decide +kernel
theorem dX4_digest_102 : decode cX4_digest 102 = .ok (.baload, 1) := by decide +kernel
theorem dX4_digest_103 : decode cX4_digest 103 = .ok (.invokestatic 181, 3) := by decide +kernel
theorem dX4_digest_106 : decode cX4_digest 106 = .ok (.lstore_n 1, 1) := by decide +kernel
theorem dX4_digest_107 : decode cX4_digest 107 = .ok (.iinc 3 1, 3) := by decide +kernel
theorem dX4_digest_110 : decode cX4_digest 110 = .ok (.goto (-28), 3) := by decide +kernel
theorem dX4_digest_113 : decode cX4_digest 113 = .ok (.lload_n 1, 1) := by decide +kernel
theorem dX4_digest_114 : decode cX4_digest 114 = .ok (.lreturn, 1) := by decide +kernel
set_option maxRecDepth 20000 in
theorem ggX4_mixStreet_X3_streetFact : GoodIn wsX4_mixStreet wsX3_streetFact := goodIn_r _ [9, 10, 11, 12, 13, 14, 15, 16, 8, 17, 18, 19, 20, 21, 22, 23, 24, 25, 26, 27, 28, 29, 30, 31, 32, 33, 34, 35, 36, 37, 38, 39, 40, 41, 42, 43, 44, 45, 46, 47, 48, 49, 50, 51, 52, 53, 54, 55, 56, 57, 58, 59, 60, 61, 62, 63, 64, 65, 66, 67, 76, 77, 78, 79, 80, 81, 82, 83, 84, 85, 86, 87, 88, 89, 90, 91, 92, 93, 94, 95, 96, 97, 98] (by decide +kernel) (by decide +kernel)
set_option maxRecDepth 20000 in
theorem gX4_mixStreet_X3_streetFact : GoodIn wsX4_mixStreet (wsV RX4 66 RX3 yX3_streetFact wsX3_streetFact) := goodIn_app (goodIn_of _ (by decide +kernel)) ggX4_mixStreet_X3_streetFact
set_option maxRecDepth 20000 in
theorem ggX4_mixStreet_X4_mix : GoodIn wsX4_mixStreet wsX4_mix := goodIn_r _ [71, 72] (by decide +kernel) (by decide +kernel)
set_option maxRecDepth 20000 in
theorem gX4_mixStreet_X4_mix : GoodIn wsX4_mixStreet (va_wsS RX4 181 yX4_mix wsX4_mix) := goodIn_app (goodIn_of _ (by decide +kernel)) ggX4_mixStreet_X4_mix
theorem dX4_mixStreet_0 : decode cX4_mixStreet 0 = .ok (.lload_n 1, 1) := by decide +kernel
theorem dX4_mixStreet_1 : decode cX4_mixStreet 1 = .ok (.lstore 4, 2) := by decide +kernel
theorem dX4_mixStreet_3 : decode cX4_mixStreet 3 = .ok (.iconst 0, 1) := by decide +kernel
theorem dX4_mixStreet_4 : decode cX4_mixStreet 4 = .ok (.istore 6, 2) := by decide +kernel
theorem dX4_mixStreet_6 : decode cX4_mixStreet 6 = .ok (.iload 6, 2) := by decide +kernel
theorem dX4_mixStreet_8 : decode cX4_mixStreet 8 = .ok (.bipush 8, 2) := by decide +kernel
theorem dX4_mixStreet_10 : decode cX4_mixStreet 10 = .ok (.if_icmp .ge 26, 3) := by decide +kernel
theorem dX4_mixStreet_13 : decode cX4_mixStreet 13 = .ok (.lload 4, 2) := by decide +kernel
theorem dX4_mixStreet_15 : decode cX4_mixStreet 15 = .ok (.aload_n 0, 1) := by decide +kernel
theorem dX4_mixStreet_16 : decode cX4_mixStreet 16 = .ok (.getfield 10, 3) := by decide +kernel
theorem dX4_mixStreet_19 : decode cX4_mixStreet 19 = .ok (.iload_n 3, 1) := by decide +kernel
theorem dX4_mixStreet_20 : decode cX4_mixStreet 20 = .ok (.iload 6, 2) := by decide +kernel
theorem dX4_mixStreet_22 : decode cX4_mixStreet 22 = .ok (.invokevirtual 66, 3) := by decide +kernel
theorem dX4_mixStreet_25 : decode cX4_mixStreet 25 = .ok (.invokestatic 181, 3) := by decide +kernel
theorem dX4_mixStreet_28 : decode cX4_mixStreet 28 = .ok (.lstore 4, 2) := by decide +kernel
theorem dX4_mixStreet_30 : decode cX4_mixStreet 30 = .ok (.iinc 6 1, 3) := by decide +kernel
theorem dX4_mixStreet_33 : decode cX4_mixStreet 33 = .ok (.goto (-27), 3) := by decide +kernel
theorem dX4_mixStreet_36 : decode cX4_mixStreet 36 = .ok (.iconst 0, 1) := by decide +kernel
theorem dX4_mixStreet_37 : decode cX4_mixStreet 37 = .ok (.istore 6, 2) := by decide +kernel
theorem dX4_mixStreet_39 : decode cX4_mixStreet 39 = .ok (.iload 6, 2) := by decide +kernel
theorem dX4_mixStreet_41 : decode cX4_mixStreet 41 = .ok (.bipush 6, 2) := by decide +kernel
theorem dX4_mixStreet_43 : decode cX4_mixStreet 43 = .ok (.if_icmp .ge 53, 3) := by decide +kernel
theorem dX4_mixStreet_46 : decode cX4_mixStreet 46 = .ok (.lload 4, 2) := by decide +kernel
theorem dX4_mixStreet_48 : decode cX4_mixStreet 48 = .ok (.aload_n 0, 1) := by decide +kernel
theorem dX4_mixStreet_49 : decode cX4_mixStreet 49 = .ok (.getfield 10, 3) := by decide +kernel
theorem dX4_mixStreet_52 : decode cX4_mixStreet 52 = .ok (.getfield 53, 3) := by decide +kernel
theorem dX4_mixStreet_55 : decode cX4_mixStreet 55 = .ok (.iload_n 3, 1) := by decide +kernel
theorem dX4_mixStreet_56 : decode cX4_mixStreet 56 = .ok (.aaload, 1) := by decide +kernel
theorem dX4_mixStreet_57 : decode cX4_mixStreet 57 = .ok (.getfield 63, 3) := by decide +kernel
theorem dX4_mixStreet_60 : decode cX4_mixStreet 60 = .ok (.iload 6, 2) := by decide +kernel
theorem dX4_mixStreet_62 : decode cX4_mixStreet 62 = .ok (.iaload, 1) := by decide +kernel
theorem dX4_mixStreet_63 : decode cX4_mixStreet 63 = .ok (.invokestatic 181, 3) := by decide +kernel
theorem dX4_mixStreet_66 : decode cX4_mixStreet 66 = .ok (.lstore 4, 2) := by decide +kernel
theorem dX4_mixStreet_68 : decode cX4_mixStreet 68 = .ok (.lload 4, 2) := by decide +kernel
theorem dX4_mixStreet_70 : decode cX4_mixStreet 70 = .ok (.aload_n 0, 1) := by decide +kernel
theorem dX4_mixStreet_71 : decode cX4_mixStreet 71 = .ok (.getfield 10, 3) := by decide +kernel
theorem dX4_mixStreet_74 : decode cX4_mixStreet 74 = .ok (.getfield 53, 3) := by decide +kernel
theorem dX4_mixStreet_77 : decode cX4_mixStreet 77 = .ok (.iload_n 3, 1) := by decide +kernel
theorem dX4_mixStreet_78 : decode cX4_mixStreet 78 = .ok (.aaload, 1) := by decide +kernel
theorem dX4_mixStreet_79 : decode cX4_mixStreet 79 = .ok (.getfield 70, 3) := by decide +kernel
theorem dX4_mixStreet_82 : decode cX4_mixStreet 82 = .ok (.iload 6, 2) := by decide +kernel
theorem dX4_mixStreet_84 : decode cX4_mixStreet 84 = .ok (.iaload, 1) := by decide +kernel
theorem dX4_mixStreet_85 : decode cX4_mixStreet 85 = .ok (.invokestatic 181, 3) := by decide +kernel
theorem dX4_mixStreet_88 : decode cX4_mixStreet 88 = .ok (.lstore 4, 2) := by decide +kernel
theorem dX4_mixStreet_90 : decode cX4_mixStreet 90 = .ok (.iinc 6 1, 3) := by decide +kernel
theorem dX4_mixStreet_93 : decode cX4_mixStreet 93 = .ok (.goto (-54), 3) := by decide +kernel
theorem dX4_mixStreet_96 : decode cX4_mixStreet 96 = .ok (.lload 4, 2) := by decide +kernel
theorem dX4_mixStreet_98 : decode cX4_mixStreet 98 = .ok (.lreturn, 1) := by decide +kernel
set_option maxRecDepth 20000 in
theorem ggX4_mixOrgan_X0_fact : GoodIn wsX4_mixOrgan wsX0_fact := goodIn_r _ [9, 10, 11, 12, 13, 14, 15, 16, 17, 18, 19, 8, 20, 21, 22, 23, 24, 25, 26, 27, 28, 29, 30, 31, 32, 33, 34, 35, 36, 50, 51, 52, 53, 54, 55, 56, 57, 58, 59, 60, 61] (by decide +kernel) (by decide +kernel)
set_option maxRecDepth 20000 in
theorem gX4_mixOrgan_X0_fact : GoodIn wsX4_mixOrgan (wsV RX4 120 RX0 yX0_fact wsX0_fact) := goodIn_app (goodIn_of _ (by decide +kernel)) ggX4_mixOrgan_X0_fact
set_option maxRecDepth 20000 in
theorem ggX4_mixOrgan_X4_mix : GoodIn wsX4_mixOrgan wsX4_mix := goodIn_r _ [40, 41] (by decide +kernel) (by decide +kernel)
set_option maxRecDepth 20000 in
theorem gX4_mixOrgan_X4_mix : GoodIn wsX4_mixOrgan (va_wsS RX4 181 yX4_mix wsX4_mix) := goodIn_app (goodIn_of _ (by decide +kernel)) ggX4_mixOrgan_X4_mix
theorem dX4_mixOrgan_0 : decode cX4_mixOrgan 0 = .ok (.lload_n 1, 1) := by decide +kernel
theorem dX4_mixOrgan_1 : decode cX4_mixOrgan 1 = .ok (.lstore 4, 2) := by decide +kernel
theorem dX4_mixOrgan_3 : decode cX4_mixOrgan 3 = .ok (.iconst 0, 1) := by decide +kernel
theorem dX4_mixOrgan_4 : decode cX4_mixOrgan 4 = .ok (.istore 6, 2) := by decide +kernel
theorem dX4_mixOrgan_6 : decode cX4_mixOrgan 6 = .ok (.iload 6, 2) := by decide +kernel
theorem dX4_mixOrgan_8 : decode cX4_mixOrgan 8 = .ok (.bipush 11, 2) := by decide +kernel
theorem dX4_mixOrgan_10 : decode cX4_mixOrgan 10 = .ok (.if_icmp .ge 30, 3) := by decide +kernel
theorem dX4_mixOrgan_13 : decode cX4_mixOrgan 13 = .ok (.lload 4, 2) := by decide +kernel
theorem dX4_mixOrgan_15 : decode cX4_mixOrgan 15 = .ok (.aload_n 0, 1) := by decide +kernel
theorem dX4_mixOrgan_16 : decode cX4_mixOrgan 16 = .ok (.getfield 10, 3) := by decide +kernel
theorem dX4_mixOrgan_19 : decode cX4_mixOrgan 19 = .ok (.getfield 97, 3) := by decide +kernel
theorem dX4_mixOrgan_22 : decode cX4_mixOrgan 22 = .ok (.iload_n 3, 1) := by decide +kernel
theorem dX4_mixOrgan_23 : decode cX4_mixOrgan 23 = .ok (.aaload, 1) := by decide +kernel
theorem dX4_mixOrgan_24 : decode cX4_mixOrgan 24 = .ok (.iload 6, 2) := by decide +kernel
theorem dX4_mixOrgan_26 : decode cX4_mixOrgan 26 = .ok (.invokevirtual 120, 3) := by decide +kernel
theorem dX4_mixOrgan_29 : decode cX4_mixOrgan 29 = .ok (.invokestatic 181, 3) := by decide +kernel
theorem dX4_mixOrgan_32 : decode cX4_mixOrgan 32 = .ok (.lstore 4, 2) := by decide +kernel
theorem dX4_mixOrgan_34 : decode cX4_mixOrgan 34 = .ok (.iinc 6 1, 3) := by decide +kernel
theorem dX4_mixOrgan_37 : decode cX4_mixOrgan 37 = .ok (.goto (-31), 3) := by decide +kernel
theorem dX4_mixOrgan_40 : decode cX4_mixOrgan 40 = .ok (.iconst 0, 1) := by decide +kernel
theorem dX4_mixOrgan_41 : decode cX4_mixOrgan 41 = .ok (.istore 6, 2) := by decide +kernel
theorem dX4_mixOrgan_43 : decode cX4_mixOrgan 43 = .ok (.iload 6, 2) := by decide +kernel
theorem dX4_mixOrgan_45 : decode cX4_mixOrgan 45 = .ok (.aload_n 0, 1) := by decide +kernel
theorem dX4_mixOrgan_46 : decode cX4_mixOrgan 46 = .ok (.getfield 10, 3) := by decide +kernel
theorem dX4_mixOrgan_49 : decode cX4_mixOrgan 49 = .ok (.getfield 30, 3) := by decide +kernel
theorem dX4_mixOrgan_52 : decode cX4_mixOrgan 52 = .ok (.if_icmp .ge 31, 3) := by decide +kernel
theorem dX4_mixOrgan_55 : decode cX4_mixOrgan 55 = .ok (.lload 4, 2) := by decide +kernel
theorem dX4_mixOrgan_57 : decode cX4_mixOrgan 57 = .ok (.aload_n 0, 1) := by decide +kernel
theorem dX4_mixOrgan_58 : decode cX4_mixOrgan 58 = .ok (.getfield 10, 3) := by decide +kernel
theorem dX4_mixOrgan_61 : decode cX4_mixOrgan 61 = .ok (.getfield 97, 3) := by decide +kernel
theorem dX4_mixOrgan_64 : decode cX4_mixOrgan 64 = .ok (.iload_n 3, 1) := by decide +kernel
theorem dX4_mixOrgan_65 : decode cX4_mixOrgan 65 = .ok (.aaload, 1) := by decide +kernel
theorem dX4_mixOrgan_66 : decode cX4_mixOrgan 66 = .ok (.getfield 109, 3) := by decide +kernel
theorem dX4_mixOrgan_69 : decode cX4_mixOrgan 69 = .ok (.iload 6, 2) := by decide +kernel
theorem dX4_mixOrgan_71 : decode cX4_mixOrgan 71 = .ok (.iaload, 1) := by decide +kernel
theorem dX4_mixOrgan_72 : decode cX4_mixOrgan 72 = .ok (.invokestatic 181, 3) := by decide +kernel
theorem dX4_mixOrgan_75 : decode cX4_mixOrgan 75 = .ok (.lstore 4, 2) := by decide +kernel
theorem dX4_mixOrgan_77 : decode cX4_mixOrgan 77 = .ok (.iinc 6 1, 3) := by decide +kernel
theorem dX4_mixOrgan_80 : decode cX4_mixOrgan 80 = .ok (.goto (-37), 3) := by decide +kernel
theorem dX4_mixOrgan_83 : decode cX4_mixOrgan 83 = .ok (.lload 4, 2) := by decide +kernel
theorem dX4_mixOrgan_85 : decode cX4_mixOrgan 85 = .ok (.lreturn, 1) := by decide +kernel
theorem dX4_mix_0 : decode cX4_mix 0 = .ok (.lload_n 0, 1) := by decide +kernel
theorem dX4_mix_1 : decode cX4_mix 1 = .ok (.ldc2_w 191, 3) := by decide +kernel
theorem dX4_mix_4 : decode cX4_mix 4 = .ok (.lmul, 1) := by decide +kernel
theorem dX4_mix_5 : decode cX4_mix 5 = .ok (.iload_n 2, 1) := by decide +kernel
theorem dX4_mix_6 : decode cX4_mix 6 = .ok (.i2l, 1) := by decide +kernel
theorem dX4_mix_7 : decode cX4_mix 7 = .ok (.ladd, 1) := by decide +kernel
theorem dX4_mix_8 : decode cX4_mix 8 = .ok (.lreturn, 1) := by decide +kernel
set_option maxRecDepth 20000 in
theorem ggX4_checkStreet_X4_checkIndex : GoodIn wsX4_checkStreet wsX4_checkIndex := goodIn_ca (goodIn_r _ [6, 7, 8] (by decide +kernel) (by decide +kernel)) (goodIn_sub (fun _ h => List.mem_cons_of_mem _ (List.mem_append_right _ h)) (by decide +kernel))
set_option maxRecDepth 20000 in
theorem gX4_checkStreet_X4_checkIndex : GoodIn wsX4_checkStreet (va_wsS RX4 49 yX4_checkIndex wsX4_checkIndex) := goodIn_app (goodIn_of _ (by decide +kernel)) ggX4_checkStreet_X4_checkIndex
theorem dX4_checkStreet_0 : decode cX4_checkStreet 0 = .ok (.iload_n 1, 1) := by decide +kernel
theorem dX4_checkStreet_1 : decode cX4_checkStreet 1 = .ok (.aload_n 0, 1) := by decide +kernel
theorem dX4_checkStreet_2 : decode cX4_checkStreet 2 = .ok (.getfield 10, 3) := by decide +kernel
theorem dX4_checkStreet_5 : decode cX4_checkStreet 5 = .ok (.getfield 30, 3) := by decide +kernel
theorem dX4_checkStreet_8 : decode cX4_checkStreet 8 = .ok (.invokestatic 49, 3) := by decide +kernel
theorem dX4_checkStreet_11 : decode cX4_checkStreet 11 = .ok (.return_, 1) := by decide +kernel
set_option maxRecDepth 20000 in
theorem ggX4_checkPitch_X4_checkStreet : GoodIn wsX4_checkPitch wsX4_checkStreet := goodIn_ca (goodIn_r _ [8, 1, 9, 10, 11, 7, 12, 13, 14, 15, 16, 17, 18, 19, 20, 21, 22] (by decide +kernel) (by decide +kernel)) (goodIn_sub (fun _ h => List.mem_cons_of_mem _ (List.mem_append_right _ h)) (by decide +kernel))
set_option maxRecDepth 20000 in
theorem gX4_checkPitch_X4_checkStreet : GoodIn wsX4_checkPitch (wsV RX4 45 RX4 yX4_checkStreet wsX4_checkStreet) := goodIn_app (goodIn_of _ (by decide +kernel)) ggX4_checkPitch_X4_checkStreet
set_option maxRecDepth 20000 in
theorem ggX4_checkPitch_X4_checkIndex : GoodIn wsX4_checkPitch wsX4_checkIndex := goodIn_ca (goodIn_r _ [12, 13, 14] (by decide +kernel) (by decide +kernel)) (goodIn_sub (fun _ h => List.mem_cons_of_mem _ (List.mem_append_right _ h)) (by decide +kernel))
set_option maxRecDepth 20000 in
theorem gX4_checkPitch_X4_checkIndex : GoodIn wsX4_checkPitch (va_wsS RX4 49 yX4_checkIndex wsX4_checkIndex) := goodIn_app (goodIn_of _ (by decide +kernel)) ggX4_checkPitch_X4_checkIndex
theorem dX4_checkPitch_0 : decode cX4_checkPitch 0 = .ok (.aload_n 0, 1) := by decide +kernel
theorem dX4_checkPitch_1 : decode cX4_checkPitch 1 = .ok (.iload_n 1, 1) := by decide +kernel
theorem dX4_checkPitch_2 : decode cX4_checkPitch 2 = .ok (.invokevirtual 45, 3) := by decide +kernel
theorem dX4_checkPitch_5 : decode cX4_checkPitch 5 = .ok (.iload_n 2, 1) := by decide +kernel
theorem dX4_checkPitch_6 : decode cX4_checkPitch 6 = .ok (.aload_n 0, 1) := by decide +kernel
theorem dX4_checkPitch_7 : decode cX4_checkPitch 7 = .ok (.getfield 10, 3) := by decide +kernel
theorem dX4_checkPitch_10 : decode cX4_checkPitch 10 = .ok (.getfield 53, 3) := by decide +kernel
theorem dX4_checkPitch_13 : decode cX4_checkPitch 13 = .ok (.iload_n 1, 1) := by decide +kernel
theorem dX4_checkPitch_14 : decode cX4_checkPitch 14 = .ok (.aaload, 1) := by decide +kernel
theorem dX4_checkPitch_15 : decode cX4_checkPitch 15 = .ok (.getfield 143, 3) := by decide +kernel
theorem dX4_checkPitch_18 : decode cX4_checkPitch 18 = .ok (.invokestatic 49, 3) := by decide +kernel
theorem dX4_checkPitch_21 : decode cX4_checkPitch 21 = .ok (.return_, 1) := by decide +kernel
set_option maxRecDepth 20000 in
theorem ggX4_checkOrgan_X4_checkIndex : GoodIn wsX4_checkOrgan wsX4_checkIndex := goodIn_ca (goodIn_r _ [6, 7, 8] (by decide +kernel) (by decide +kernel)) (goodIn_sub (fun _ h => List.mem_cons_of_mem _ (List.mem_append_right _ h)) (by decide +kernel))
set_option maxRecDepth 20000 in
theorem gX4_checkOrgan_X4_checkIndex : GoodIn wsX4_checkOrgan (va_wsS RX4 49 yX4_checkIndex wsX4_checkIndex) := goodIn_app (goodIn_of _ (by decide +kernel)) ggX4_checkOrgan_X4_checkIndex
theorem dX4_checkOrgan_0 : decode cX4_checkOrgan 0 = .ok (.iload_n 1, 1) := by decide +kernel
theorem dX4_checkOrgan_1 : decode cX4_checkOrgan 1 = .ok (.aload_n 0, 1) := by decide +kernel
theorem dX4_checkOrgan_2 : decode cX4_checkOrgan 2 = .ok (.getfield 10, 3) := by decide +kernel
theorem dX4_checkOrgan_5 : decode cX4_checkOrgan 5 = .ok (.getfield 76, 3) := by decide +kernel
theorem dX4_checkOrgan_8 : decode cX4_checkOrgan 8 = .ok (.invokestatic 49, 3) := by decide +kernel
theorem dX4_checkOrgan_11 : decode cX4_checkOrgan 11 = .ok (.return_, 1) := by decide +kernel
theorem dX4_checkIndex_0 : decode cX4_checkIndex 0 = .ok (.iload_n 0, 1) := by decide +kernel
theorem dX4_checkIndex_1 : decode cX4_checkIndex 1 = .ok (.ifCond .lt 8, 3) := by decide +kernel
theorem dX4_checkIndex_4 : decode cX4_checkIndex 4 = .ok (.iload_n 0, 1) := by decide +kernel
theorem dX4_checkIndex_5 : decode cX4_checkIndex 5 = .ok (.iload_n 1, 1) := by decide +kernel
theorem dX4_checkIndex_6 : decode cX4_checkIndex 6 = .ok (.if_icmp .lt 13, 3) := by decide +kernel
theorem dX4_checkIndex_9 : decode cX4_checkIndex 9 = .ok (.new 193, 3) := by decide +kernel
theorem dX4_checkIndex_12 : decode cX4_checkIndex 12 = .ok (.dup, 1) := by decide +kernel
theorem dX4_checkIndex_13 : decode cX4_checkIndex 13 = .ok (.ldc 195, 2) := by decide +kernel
theorem dX4_checkIndex_15 : decode cX4_checkIndex 15 = .ok (.invokespecial 197, 3) := by decide +kernel
theorem dX4_checkIndex_18 : decode cX4_checkIndex 18 = .ok (.athrow, 1) := by decide +kernel
theorem dX4_checkIndex_19 : decode cX4_checkIndex 19 = .ok (.return_, 1) := by decide +kernel
theorem dX4_checkRange_0 : decode cX4_checkRange 0 = .ok (.iload_n 0, 1) := by decide +kernel
theorem dX4_checkRange_1 : decode cX4_checkRange 1 = .ok (.iload_n 1, 1) := by decide +kernel
theorem dX4_checkRange_2 : decode cX4_checkRange 2 = .ok (.if_icmp .lt 8, 3) := by decide +kernel
theorem dX4_checkRange_5 : decode cX4_checkRange 5 = .ok (.iload_n 0, 1) := by decide +kernel
theorem dX4_checkRange_6 : decode cX4_checkRange 6 = .ok (.iload_n 2, 1) := by decide +kernel
theorem dX4_checkRange_7 : decode cX4_checkRange 7 = .ok (.if_icmp .le 13, 3) := by decide +kernel
theorem dX4_checkRange_10 : decode cX4_checkRange 10 = .ok (.new 92, 3) := by decide +kernel
theorem dX4_checkRange_13 : decode cX4_checkRange 13 = .ok (.dup, 1) := by decide +kernel
theorem dX4_checkRange_14 : decode cX4_checkRange 14 = .ok (.ldc 198, 2) := by decide +kernel
theorem dX4_checkRange_16 : decode cX4_checkRange 16 = .ok (.invokespecial 96, 3) := by decide +kernel
theorem dX4_checkRange_19 : decode cX4_checkRange 19 = .ok (.athrow, 1) := by decide +kernel
theorem dX4_checkRange_20 : decode cX4_checkRange 20 = .ok (.return_, 1) := by decide +kernel
theorem dX4_isBarrel_0 : decode cX4_isBarrel 0 = .ok (.iconst 0, 1) := by decide +kernel
theorem dX4_isBarrel_1 : decode cX4_isBarrel 1 = .ok (.istore_n 1, 1) := by decide +kernel
theorem dX4_isBarrel_2 : decode cX4_isBarrel 2 = .ok (.iload_n 0, 1) := by decide +kernel
theorem dX4_isBarrel_3 : decode cX4_isBarrel 3 = .ok (.istore_n 2, 1) := by decide +kernel
theorem dX4_isBarrel_4 : decode cX4_isBarrel 4 = .ok (.iload_n 2, 1) := by decide +kernel
theorem dX4_isBarrel_5 : decode cX4_isBarrel 5 = .ok (.ifCond .le 32, 3) := by decide +kernel
theorem dX4_isBarrel_8 : decode cX4_isBarrel 8 = .ok (.iload_n 2, 1) := by decide +kernel
theorem dX4_isBarrel_9 : decode cX4_isBarrel 9 = .ok (.bipush 10, 2) := by decide +kernel
theorem dX4_isBarrel_11 : decode cX4_isBarrel 11 = .ok (.irem, 1) := by decide +kernel
theorem dX4_isBarrel_12 : decode cX4_isBarrel 12 = .ok (.istore_n 3, 1) := by decide +kernel
theorem dX4_isBarrel_13 : decode cX4_isBarrel 13 = .ok (.iload_n 3, 1) := by decide +kernel
theorem dX4_isBarrel_14 : decode cX4_isBarrel 14 = .ok (.iconst 1, 1) := by decide +kernel
theorem dX4_isBarrel_15 : decode cX4_isBarrel 15 = .ok (.if_icmp .lt 9, 3) := by decide +kernel
theorem dX4_isBarrel_18 : decode cX4_isBarrel 18 = .ok (.iload_n 3, 1) := by decide +kernel
theorem dX4_isBarrel_19 : decode cX4_isBarrel 19 = .ok (.bipush 6, 2) := by decide +kernel
theorem dX4_isBarrel_21 : decode cX4_isBarrel 21 = .ok (.if_icmp .le 5, 3) := by decide +kernel
theorem dX4_isBarrel_24 : decode cX4_isBarrel 24 = .ok (.iconst 0, 1) := by decide +kernel
theorem dX4_isBarrel_25 : decode cX4_isBarrel 25 = .ok (.ireturn, 1) := by decide +kernel
theorem dX4_isBarrel_26 : decode cX4_isBarrel 26 = .ok (.iinc 1 1, 3) := by decide +kernel
theorem dX4_isBarrel_29 : decode cX4_isBarrel 29 = .ok (.iload_n 2, 1) := by decide +kernel
theorem dX4_isBarrel_30 : decode cX4_isBarrel 30 = .ok (.bipush 10, 2) := by decide +kernel
theorem dX4_isBarrel_32 : decode cX4_isBarrel 32 = .ok (.idiv, 1) := by decide +kernel
theorem dX4_isBarrel_33 : decode cX4_isBarrel 33 = .ok (.istore_n 2, 1) := by decide +kernel
theorem dX4_isBarrel_34 : decode cX4_isBarrel 34 = .ok (.goto (-30), 3) := by decide +kernel
theorem dX4_isBarrel_37 : decode cX4_isBarrel 37 = .ok (.iload_n 1, 1) := by decide +kernel
theorem dX4_isBarrel_38 : decode cX4_isBarrel 38 = .ok (.iconst 1, 1) := by decide +kernel
theorem dX4_isBarrel_39 : decode cX4_isBarrel 39 = .ok (.if_icmp .lt 13, 3) := by decide +kernel
theorem dX4_isBarrel_42 : decode cX4_isBarrel 42 = .ok (.iload_n 1, 1) := by decide +kernel
theorem dX4_isBarrel_43 : decode cX4_isBarrel 43 = .ok (.bipush 8, 2) := by decide +kernel
theorem dX4_isBarrel_45 : decode cX4_isBarrel 45 = .ok (.if_icmp .gt 7, 3) := by decide +kernel
theorem dX4_isBarrel_48 : decode cX4_isBarrel 48 = .ok (.iconst 1, 1) := by decide +kernel
theorem dX4_isBarrel_49 : decode cX4_isBarrel 49 = .ok (.goto 4, 3) := by decide +kernel
theorem dX4_isBarrel_52 : decode cX4_isBarrel 52 = .ok (.iconst 0, 1) := by decide +kernel
theorem dX4_isBarrel_53 : decode cX4_isBarrel 53 = .ok (.ireturn, 1) := by decide +kernel
theorem dX5_init_0 : decode cX5_init 0 = .ok (.aload_n 0, 1) := by decide +kernel
theorem dX5_init_1 : decode cX5_init 1 = .ok (.aload_n 1, 1) := by decide +kernel
theorem dX5_init_2 : decode cX5_init 2 = .ok (.putfield 3, 3) := by decide +kernel
theorem dX5_init_5 : decode cX5_init 5 = .ok (.aload_n 0, 1) := by decide +kernel
theorem dX5_init_6 : decode cX5_init 6 = .ok (.invokespecial 9, 3) := by decide +kernel
theorem dX5_init_9 : decode cX5_init 9 = .ok (.aload_n 0, 1) := by decide +kernel
theorem dX5_init_10 : decode cX5_init 10 = .ok (.bipush 6, 2) := by decide +kernel
theorem dX5_init_12 : decode cX5_init 12 = .ok (.newarray .int, 2) := by decide +kernel
theorem dX5_init_14 : decode cX5_init 14 = .ok (.putfield 15, 3) := by decide +kernel
theorem dX5_init_17 : decode cX5_init 17 = .ok (.aload_n 0, 1) := by decide +kernel
theorem dX5_init_18 : decode cX5_init 18 = .ok (.bipush 36, 2) := by decide +kernel
theorem dX5_init_20 : decode cX5_init 20 = .ok (.newarray .int, 2) := by decide +kernel
theorem dX5_init_22 : decode cX5_init 22 = .ok (.putfield 19, 3) := by decide +kernel
theorem dX5_init_25 : decode cX5_init 25 = .ok (.aload_n 0, 1) := by decide +kernel
theorem dX5_init_26 : decode cX5_init 26 = .ok (.bipush 36, 2) := by decide +kernel
theorem dX5_init_28 : decode cX5_init 28 = .ok (.newarray .int, 2) := by decide +kernel
theorem dX5_init_30 : decode cX5_init 30 = .ok (.putfield 22, 3) := by decide +kernel
theorem dX5_init_33 : decode cX5_init 33 = .ok (.aload_n 0, 1) := by decide +kernel
theorem dX5_init_34 : decode cX5_init 34 = .ok (.bipush 6, 2) := by decide +kernel
theorem dX5_init_36 : decode cX5_init 36 = .ok (.newarray .int, 2) := by decide +kernel
theorem dX5_init_38 : decode cX5_init 38 = .ok (.putfield 25, 3) := by decide +kernel
theorem dX5_init_41 : decode cX5_init 41 = .ok (.aload_n 0, 1) := by decide +kernel
theorem dX5_init_42 : decode cX5_init 42 = .ok (.bipush 6, 2) := by decide +kernel
theorem dX5_init_44 : decode cX5_init 44 = .ok (.newarray .int, 2) := by decide +kernel
theorem dX5_init_46 : decode cX5_init 46 = .ok (.putfield 28, 3) := by decide +kernel
theorem dX5_init_49 : decode cX5_init 49 = .ok (.aload_n 0, 1) := by decide +kernel
theorem dX5_init_50 : decode cX5_init 50 = .ok (.bipush 8, 2) := by decide +kernel
theorem dX5_init_52 : decode cX5_init 52 = .ok (.newarray .int, 2) := by decide +kernel
theorem dX5_init_54 : decode cX5_init 54 = .ok (.putfield 31, 3) := by decide +kernel
theorem dX5_init_57 : decode cX5_init 57 = .ok (.aload_n 0, 1) := by decide +kernel
theorem dX5_init_58 : decode cX5_init 58 = .ok (.bipush 8, 2) := by decide +kernel
theorem dX5_init_60 : decode cX5_init 60 = .ok (.newarray .int, 2) := by decide +kernel
theorem dX5_init_62 : decode cX5_init 62 = .ok (.putfield 34, 3) := by decide +kernel
theorem dX5_init_65 : decode cX5_init 65 = .ok (.aload_n 0, 1) := by decide +kernel
theorem dX5_init_66 : decode cX5_init 66 = .ok (.bipush 8, 2) := by decide +kernel
theorem dX5_init_68 : decode cX5_init 68 = .ok (.newarray .int, 2) := by decide +kernel
theorem dX5_init_70 : decode cX5_init 70 = .ok (.putfield 37, 3) := by decide +kernel
theorem dX5_init_73 : decode cX5_init 73 = .ok (.aload_n 0, 1) := by decide +kernel
theorem dX5_init_74 : decode cX5_init 74 = .ok (.bipush 8, 2) := by decide +kernel
theorem dX5_init_76 : decode cX5_init 76 = .ok (.newarray .int, 2) := by decide +kernel
theorem dX5_init_78 : decode cX5_init 78 = .ok (.putfield 40, 3) := by decide +kernel
theorem dX5_init_81 : decode cX5_init 81 = .ok (.aload_n 0, 1) := by decide +kernel
theorem dX5_init_82 : decode cX5_init 82 = .ok (.bipush 8, 2) := by decide +kernel
theorem dX5_init_84 : decode cX5_init 84 = .ok (.newarray .int, 2) := by decide +kernel
theorem dX5_init_86 : decode cX5_init 86 = .ok (.putfield 43, 3) := by decide +kernel
theorem dX5_init_89 : decode cX5_init 89 = .ok (.aload_n 0, 1) := by decide +kernel
theorem dX5_init_90 : decode cX5_init 90 = .ok (.bipush 8, 2) := by decide +kernel
theorem dX5_init_92 : decode cX5_init 92 = .ok (.newarray .int, 2) := by decide +kernel
theorem dX5_init_94 : decode cX5_init 94 = .ok (.putfield 46, 3) := by decide +kernel
theorem dX5_init_97 : decode cX5_init 97 = .ok (.aload_n 0, 1) := by decide +kernel
theorem dX5_init_98 : decode cX5_init 98 = .ok (.bipush 8, 2) := by decide +kernel
theorem dX5_init_100 : decode cX5_init 100 = .ok (.newarray .int, 2) := by decide +kernel
theorem dX5_init_102 : decode cX5_init 102 = .ok (.putfield 49, 3) := by decide +kernel
theorem dX5_init_105 : decode cX5_init 105 = .ok (.aload_n 0, 1) := by decide +kernel
theorem dX5_init_106 : decode cX5_init 106 = .ok (.bipush 48, 2) := by decide +kernel
theorem dX5_init_108 : decode cX5_init 108 = .ok (.newarray .int, 2) := by decide +kernel
theorem dX5_init_110 : decode cX5_init 110 = .ok (.putfield 52, 3) := by decide +kernel
theorem dX5_init_113 : decode cX5_init 113 = .ok (.aload_n 0, 1) := by decide +kernel
theorem dX5_init_114 : decode cX5_init 114 = .ok (.bipush 48, 2) := by decide +kernel
theorem dX5_init_116 : decode cX5_init 116 = .ok (.newarray .int, 2) := by decide +kernel
theorem dX5_init_118 : decode cX5_init 118 = .ok (.putfield 55, 3) := by decide +kernel
theorem dX5_init_121 : decode cX5_init 121 = .ok (.aload_n 0, 1) := by decide +kernel
theorem dX5_init_122 : decode cX5_init 122 = .ok (.bipush 48, 2) := by decide +kernel
theorem dX5_init_124 : decode cX5_init 124 = .ok (.newarray .int, 2) := by decide +kernel
theorem dX5_init_126 : decode cX5_init 126 = .ok (.putfield 58, 3) := by decide +kernel
theorem dX5_init_129 : decode cX5_init 129 = .ok (.aload_n 0, 1) := by decide +kernel
theorem dX5_init_130 : decode cX5_init 130 = .ok (.bipush 8, 2) := by decide +kernel
theorem dX5_init_132 : decode cX5_init 132 = .ok (.newarray .boolean, 2) := by decide +kernel
theorem dX5_init_134 : decode cX5_init 134 = .ok (.putfield 61, 3) := by decide +kernel
theorem dX5_init_137 : decode cX5_init 137 = .ok (.aload_n 0, 1) := by decide +kernel
theorem dX5_init_138 : decode cX5_init 138 = .ok (.bipush 48, 2) := by decide +kernel
theorem dX5_init_140 : decode cX5_init 140 = .ok (.newarray .boolean, 2) := by decide +kernel
theorem dX5_init_142 : decode cX5_init 142 = .ok (.putfield 65, 3) := by decide +kernel
theorem dX5_init_145 : decode cX5_init 145 = .ok (.return_, 1) := by decide +kernel
theorem dX5_copy_0 : decode cX5_copy 0 = .ok (.aload_n 1, 1) := by decide +kernel
theorem dX5_copy_1 : decode cX5_copy 1 = .ok (.iconst 0, 1) := by decide +kernel
theorem dX5_copy_2 : decode cX5_copy 2 = .ok (.aload_n 2, 1) := by decide +kernel
theorem dX5_copy_3 : decode cX5_copy 3 = .ok (.iconst 0, 1) := by decide +kernel
theorem dX5_copy_4 : decode cX5_copy 4 = .ok (.aload_n 1, 1) := by decide +kernel
theorem dX5_copy_5 : decode cX5_copy 5 = .ok (.arraylength, 1) := by decide +kernel
theorem dX5_copy_6 : decode cX5_copy 6 = .ok (.invokestatic 68, 3) := by decide +kernel
theorem dX5_copy_9 : decode cX5_copy 9 = .ok (.return_, 1) := by decide +kernel
set_option maxRecDepth 20000 in
theorem ggX5_become_X5_copy : GoodIn wsX5_become wsX5_copy := goodIn_r _ [23, 24, 25, 26, 27] (by decide +kernel) (by decide +kernel)
set_option maxRecDepth 20000 in
theorem gX5_become_X5_copy : GoodIn wsX5_become (wsV RX5 84 RX5 yX5_copy wsX5_copy) := goodIn_app (goodIn_of _ (by decide +kernel)) ggX5_become_X5_copy
theorem dX5_become_0 : decode cX5_become 0 = .ok (.aload_n 0, 1) := by decide +kernel
theorem dX5_become_1 : decode cX5_become 1 = .ok (.aload_n 1, 1) := by decide +kernel
theorem dX5_become_2 : decode cX5_become 2 = .ok (.getfield 74, 3) := by decide +kernel
theorem dX5_become_5 : decode cX5_become 5 = .ok (.putfield 74, 3) := by decide +kernel
theorem dX5_become_8 : decode cX5_become 8 = .ok (.aload_n 0, 1) := by decide +kernel
theorem dX5_become_9 : decode cX5_become 9 = .ok (.aload_n 1, 1) := by decide +kernel
theorem dX5_become_10 : decode cX5_become 10 = .ok (.getfield 78, 3) := by decide +kernel
theorem dX5_become_13 : decode cX5_become 13 = .ok (.putfield 78, 3) := by decide +kernel
theorem dX5_become_16 : decode cX5_become 16 = .ok (.aload_n 0, 1) := by decide +kernel
theorem dX5_become_17 : decode cX5_become 17 = .ok (.aload_n 1, 1) := by decide +kernel
theorem dX5_become_18 : decode cX5_become 18 = .ok (.getfield 81, 3) := by decide +kernel
theorem dX5_become_21 : decode cX5_become 21 = .ok (.putfield 81, 3) := by decide +kernel
theorem dX5_become_24 : decode cX5_become 24 = .ok (.aload_n 0, 1) := by decide +kernel
theorem dX5_become_25 : decode cX5_become 25 = .ok (.aload_n 1, 1) := by decide +kernel
theorem dX5_become_26 : decode cX5_become 26 = .ok (.getfield 15, 3) := by decide +kernel
theorem dX5_become_29 : decode cX5_become 29 = .ok (.aload_n 0, 1) := by decide +kernel
theorem dX5_become_30 : decode cX5_become 30 = .ok (.getfield 15, 3) := by decide +kernel
theorem dX5_become_33 : decode cX5_become 33 = .ok (.invokevirtual 84, 3) := by decide +kernel
theorem dX5_become_36 : decode cX5_become 36 = .ok (.aload_n 0, 1) := by decide +kernel
theorem dX5_become_37 : decode cX5_become 37 = .ok (.aload_n 1, 1) := by decide +kernel
theorem dX5_become_38 : decode cX5_become 38 = .ok (.getfield 19, 3) := by decide +kernel
theorem dX5_become_41 : decode cX5_become 41 = .ok (.aload_n 0, 1) := by decide +kernel
theorem dX5_become_42 : decode cX5_become 42 = .ok (.getfield 19, 3) := by decide +kernel
theorem dX5_become_45 : decode cX5_become 45 = .ok (.invokevirtual 84, 3) := by decide +kernel
theorem dX5_become_48 : decode cX5_become 48 = .ok (.aload_n 0, 1) := by decide +kernel
theorem dX5_become_49 : decode cX5_become 49 = .ok (.aload_n 1, 1) := by decide +kernel
theorem dX5_become_50 : decode cX5_become 50 = .ok (.getfield 22, 3) := by decide +kernel
theorem dX5_become_53 : decode cX5_become 53 = .ok (.aload_n 0, 1) := by decide +kernel
theorem dX5_become_54 : decode cX5_become 54 = .ok (.getfield 22, 3) := by decide +kernel
theorem dX5_become_57 : decode cX5_become 57 = .ok (.invokevirtual 84, 3) := by decide +kernel
theorem dX5_become_60 : decode cX5_become 60 = .ok (.aload_n 0, 1) := by decide +kernel
theorem dX5_become_61 : decode cX5_become 61 = .ok (.aload_n 1, 1) := by decide +kernel
theorem dX5_become_62 : decode cX5_become 62 = .ok (.getfield 25, 3) := by decide +kernel
theorem dX5_become_65 : decode cX5_become 65 = .ok (.aload_n 0, 1) := by decide +kernel
theorem dX5_become_66 : decode cX5_become 66 = .ok (.getfield 25, 3) := by decide +kernel
theorem dX5_become_69 : decode cX5_become 69 = .ok (.invokevirtual 84, 3) := by decide +kernel
theorem dX5_become_72 : decode cX5_become 72 = .ok (.aload_n 0, 1) := by decide +kernel
theorem dX5_become_73 : decode cX5_become 73 = .ok (.aload_n 1, 1) := by decide +kernel
theorem dX5_become_74 : decode cX5_become 74 = .ok (.getfield 28, 3) := by decide +kernel
theorem dX5_become_77 : decode cX5_become 77 = .ok (.aload_n 0, 1) := by decide +kernel
theorem dX5_become_78 : decode cX5_become 78 = .ok (.getfield 28, 3) := by decide +kernel
theorem dX5_become_81 : decode cX5_become 81 = .ok (.invokevirtual 84, 3) := by decide +kernel
theorem dX5_become_84 : decode cX5_become 84 = .ok (.aload_n 0, 1) := by decide +kernel
theorem dX5_become_85 : decode cX5_become 85 = .ok (.aload_n 1, 1) := by decide +kernel
theorem dX5_become_86 : decode cX5_become 86 = .ok (.getfield 31, 3) := by decide +kernel
theorem dX5_become_89 : decode cX5_become 89 = .ok (.aload_n 0, 1) := by decide +kernel
theorem dX5_become_90 : decode cX5_become 90 = .ok (.getfield 31, 3) := by decide +kernel
theorem dX5_become_93 : decode cX5_become 93 = .ok (.invokevirtual 84, 3) := by decide +kernel
theorem dX5_become_96 : decode cX5_become 96 = .ok (.aload_n 0, 1) := by decide +kernel
theorem dX5_become_97 : decode cX5_become 97 = .ok (.aload_n 1, 1) := by decide +kernel
theorem dX5_become_98 : decode cX5_become 98 = .ok (.getfield 34, 3) := by decide +kernel
theorem dX5_become_101 : decode cX5_become 101 = .ok (.aload_n 0, 1) := by decide +kernel
theorem dX5_become_102 : decode cX5_become 102 = .ok (.getfield 34, 3) := by decide +kernel
theorem dX5_become_105 : decode cX5_become 105 = .ok (.invokevirtual 84, 3) := by decide +kernel
theorem dX5_become_108 : decode cX5_become 108 = .ok (.aload_n 0, 1) := by decide +kernel
theorem dX5_become_109 : decode cX5_become 109 = .ok (.aload_n 1, 1) := by decide +kernel
theorem dX5_become_110 : decode cX5_become 110 = .ok (.getfield 37, 3) := by decide +kernel
theorem dX5_become_113 : decode cX5_become 113 = .ok (.aload_n 0, 1) := by decide +kernel
theorem dX5_become_114 : decode cX5_become 114 = .ok (.getfield 37, 3) := by decide +kernel
theorem dX5_become_117 : decode cX5_become 117 = .ok (.invokevirtual 84, 3) := by decide +kernel
theorem dX5_become_120 : decode cX5_become 120 = .ok (.aload_n 0, 1) := by decide +kernel
theorem dX5_become_121 : decode cX5_become 121 = .ok (.aload_n 1, 1) := by decide +kernel
theorem dX5_become_122 : decode cX5_become 122 = .ok (.getfield 40, 3) := by decide +kernel
theorem dX5_become_125 : decode cX5_become 125 = .ok (.aload_n 0, 1) := by decide +kernel
theorem dX5_become_126 : decode cX5_become 126 = .ok (.getfield 40, 3) := by decide +kernel
theorem dX5_become_129 : decode cX5_become 129 = .ok (.invokevirtual 84, 3) := by decide +kernel
theorem dX5_become_132 : decode cX5_become 132 = .ok (.aload_n 0, 1) := by decide +kernel
theorem dX5_become_133 : decode cX5_become 133 = .ok (.aload_n 1, 1) := by decide +kernel
theorem dX5_become_134 : decode cX5_become 134 = .ok (.getfield 43, 3) := by decide +kernel
theorem dX5_become_137 : decode cX5_become 137 = .ok (.aload_n 0, 1) := by decide +kernel
theorem dX5_become_138 : decode cX5_become 138 = .ok (.getfield 43, 3) := by decide +kernel
theorem dX5_become_141 : decode cX5_become 141 = .ok (.invokevirtual 84, 3) := by decide +kernel
theorem dX5_become_144 : decode cX5_become 144 = .ok (.aload_n 0, 1) := by decide +kernel
theorem dX5_become_145 : decode cX5_become 145 = .ok (.aload_n 1, 1) := by decide +kernel
theorem dX5_become_146 : decode cX5_become 146 = .ok (.getfield 46, 3) := by decide +kernel
theorem dX5_become_149 : decode cX5_become 149 = .ok (.aload_n 0, 1) := by decide +kernel
theorem dX5_become_150 : decode cX5_become 150 = .ok (.getfield 46, 3) := by decide +kernel
theorem dX5_become_153 : decode cX5_become 153 = .ok (.invokevirtual 84, 3) := by decide +kernel
theorem dX5_become_156 : decode cX5_become 156 = .ok (.aload_n 0, 1) := by decide +kernel
theorem dX5_become_157 : decode cX5_become 157 = .ok (.aload_n 1, 1) := by decide +kernel
theorem dX5_become_158 : decode cX5_become 158 = .ok (.getfield 49, 3) := by decide +kernel
theorem dX5_become_161 : decode cX5_become 161 = .ok (.aload_n 0, 1) := by decide +kernel
theorem dX5_become_162 : decode cX5_become 162 = .ok (.getfield 49, 3) := by decide +kernel
theorem dX5_become_165 : decode cX5_become 165 = .ok (.invokevirtual 84, 3) := by decide +kernel
theorem dX5_become_168 : decode cX5_become 168 = .ok (.aload_n 0, 1) := by decide +kernel
theorem dX5_become_169 : decode cX5_become 169 = .ok (.aload_n 1, 1) := by decide +kernel
theorem dX5_become_170 : decode cX5_become 170 = .ok (.getfield 52, 3) := by decide +kernel
theorem dX5_become_173 : decode cX5_become 173 = .ok (.aload_n 0, 1) := by decide +kernel
theorem dX5_become_174 : decode cX5_become 174 = .ok (.getfield 52, 3) := by decide +kernel
theorem dX5_become_177 : decode cX5_become 177 = .ok (.invokevirtual 84, 3) := by decide +kernel
theorem dX5_become_180 : decode cX5_become 180 = .ok (.aload_n 0, 1) := by decide +kernel
theorem dX5_become_181 : decode cX5_become 181 = .ok (.aload_n 1, 1) := by decide +kernel
theorem dX5_become_182 : decode cX5_become 182 = .ok (.getfield 55, 3) := by decide +kernel
theorem dX5_become_185 : decode cX5_become 185 = .ok (.aload_n 0, 1) := by decide +kernel
theorem dX5_become_186 : decode cX5_become 186 = .ok (.getfield 55, 3) := by decide +kernel
theorem dX5_become_189 : decode cX5_become 189 = .ok (.invokevirtual 84, 3) := by decide +kernel
theorem dX5_become_192 : decode cX5_become 192 = .ok (.aload_n 0, 1) := by decide +kernel
theorem dX5_become_193 : decode cX5_become 193 = .ok (.aload_n 1, 1) := by decide +kernel
theorem dX5_become_194 : decode cX5_become 194 = .ok (.getfield 58, 3) := by decide +kernel
theorem dX5_become_197 : decode cX5_become 197 = .ok (.aload_n 0, 1) := by decide +kernel
theorem dX5_become_198 : decode cX5_become 198 = .ok (.getfield 58, 3) := by decide +kernel
theorem dX5_become_201 : decode cX5_become 201 = .ok (.invokevirtual 84, 3) := by decide +kernel
theorem dX5_become_204 : decode cX5_become 204 = .ok (.return_, 1) := by decide +kernel
set_option maxRecDepth 20000 in
theorem ggX5_tune_X5_tunes : GoodIn wsX5_tune wsX5_tunes := goodIn_r _ [7, 1, 8, 9, 10, 11, 12, 13, 14, 15, 16, 17, 18, 19, 20, 21, 22, 23, 24, 25, 26, 27, 28] (by decide +kernel) (by decide +kernel)
set_option maxRecDepth 20000 in
theorem gX5_tune_X5_tunes : GoodIn wsX5_tune (wsV RX5 88 RX5 yX5_tunes wsX5_tunes) := goodIn_app (goodIn_of _ (by decide +kernel)) ggX5_tune_X5_tunes
theorem dX5_tune_0 : decode cX5_tune 0 = .ok (.aload_n 0, 1) := by decide +kernel
theorem dX5_tune_1 : decode cX5_tune 1 = .ok (.getfield 46, 3) := by decide +kernel
theorem dX5_tune_4 : decode cX5_tune 4 = .ok (.iload_n 1, 1) := by decide +kernel
theorem dX5_tune_5 : decode cX5_tune 5 = .ok (.iaload, 1) := by decide +kernel
theorem dX5_tune_6 : decode cX5_tune 6 = .ok (.istore_n 2, 1) := by decide +kernel
theorem dX5_tune_7 : decode cX5_tune 7 = .ok (.aload_n 0, 1) := by decide +kernel
theorem dX5_tune_8 : decode cX5_tune 8 = .ok (.iload_n 1, 1) := by decide +kernel
theorem dX5_tune_9 : decode cX5_tune 9 = .ok (.invokevirtual 88, 3) := by decide +kernel
theorem dX5_tune_12 : decode cX5_tune 12 = .ok (.iconst 1, 1) := by decide +kernel
theorem dX5_tune_13 : decode cX5_tune 13 = .ok (.isub, 1) := by decide +kernel
theorem dX5_tune_14 : decode cX5_tune 14 = .ok (.istore_n 3, 1) := by decide +kernel
theorem dX5_tune_15 : decode cX5_tune 15 = .ok (.iload_n 3, 1) := by decide +kernel
theorem dX5_tune_16 : decode cX5_tune 16 = .ok (.aload_n 0, 1) := by decide +kernel
theorem dX5_tune_17 : decode cX5_tune 17 = .ok (.getfield 49, 3) := by decide +kernel
theorem dX5_tune_20 : decode cX5_tune 20 = .ok (.iload_n 1, 1) := by decide +kernel
theorem dX5_tune_21 : decode cX5_tune 21 = .ok (.iaload, 1) := by decide +kernel
theorem dX5_tune_22 : decode cX5_tune 22 = .ok (.if_icmp .le 14, 3) := by decide +kernel
theorem dX5_tune_25 : decode cX5_tune 25 = .ok (.iload_n 2, 1) := by decide +kernel
theorem dX5_tune_26 : decode cX5_tune 26 = .ok (.bipush 10, 2) := by decide +kernel
theorem dX5_tune_28 : decode cX5_tune 28 = .ok (.idiv, 1) := by decide +kernel
theorem dX5_tune_29 : decode cX5_tune 29 = .ok (.istore_n 2, 1) := by decide +kernel
theorem dX5_tune_30 : decode cX5_tune 30 = .ok (.iinc 3 (-1), 3) := by decide +kernel
theorem dX5_tune_33 : decode cX5_tune 33 = .ok (.goto (-18), 3) := by decide +kernel
theorem dX5_tune_36 : decode cX5_tune 36 = .ok (.iload_n 2, 1) := by decide +kernel
theorem dX5_tune_37 : decode cX5_tune 37 = .ok (.bipush 10, 2) := by decide +kernel
theorem dX5_tune_39 : decode cX5_tune 39 = .ok (.irem, 1) := by decide +kernel
theorem dX5_tune_40 : decode cX5_tune 40 = .ok (.iconst 1, 1) := by decide +kernel
theorem dX5_tune_41 : decode cX5_tune 41 = .ok (.isub, 1) := by decide +kernel
theorem dX5_tune_42 : decode cX5_tune 42 = .ok (.ireturn, 1) := by decide +kernel
theorem dX5_tunes_0 : decode cX5_tunes 0 = .ok (.iconst 0, 1) := by decide +kernel
theorem dX5_tunes_1 : decode cX5_tunes 1 = .ok (.istore_n 2, 1) := by decide +kernel
theorem dX5_tunes_2 : decode cX5_tunes 2 = .ok (.aload_n 0, 1) := by decide +kernel
theorem dX5_tunes_3 : decode cX5_tunes 3 = .ok (.getfield 46, 3) := by decide +kernel
theorem dX5_tunes_6 : decode cX5_tunes 6 = .ok (.iload_n 1, 1) := by decide +kernel
theorem dX5_tunes_7 : decode cX5_tunes 7 = .ok (.iaload, 1) := by decide +kernel
theorem dX5_tunes_8 : decode cX5_tunes 8 = .ok (.istore_n 3, 1) := by decide +kernel
theorem dX5_tunes_9 : decode cX5_tunes 9 = .ok (.iload_n 3, 1) := by decide +kernel
theorem dX5_tunes_10 : decode cX5_tunes 10 = .ok (.ifCond .le 14, 3) := by decide +kernel
theorem dX5_tunes_13 : decode cX5_tunes 13 = .ok (.iinc 2 1, 3) := by decide +kernel
theorem dX5_tunes_16 : decode cX5_tunes 16 = .ok (.iload_n 3, 1) := by decide +kernel
theorem dX5_tunes_17 : decode cX5_tunes 17 = .ok (.bipush 10, 2) := by decide +kernel
theorem dX5_tunes_19 : decode cX5_tunes 19 = .ok (.idiv, 1) := by decide +kernel
theorem dX5_tunes_20 : decode cX5_tunes 20 = .ok (.istore_n 3, 1) := by decide +kernel
theorem dX5_tunes_21 : decode cX5_tunes 21 = .ok (.goto (-12), 3) := by decide +kernel
theorem dX5_tunes_24 : decode cX5_tunes 24 = .ok (.iload_n 2, 1) := by decide +kernel
theorem dX5_tunes_25 : decode cX5_tunes 25 = .ok (.ireturn, 1) := by decide +kernel
theorem dX5_sound_0 : decode cX5_sound 0 = .ok (.aload_n 0, 1) := by decide +kernel
theorem dX5_sound_1 : decode cX5_sound 1 = .ok (.getfield 31, 3) := by decide +kernel
theorem dX5_sound_4 : decode cX5_sound 4 = .ok (.iload_n 1, 1) := by decide +kernel
theorem dX5_sound_5 : decode cX5_sound 5 = .ok (.iaload, 1) := by decide +kernel
theorem dX5_sound_6 : decode cX5_sound 6 = .ok (.iload_n 2, 1) := by decide +kernel
theorem dX5_sound_7 : decode cX5_sound 7 = .ok (.if_icmp .ne 37, 3) := by decide +kernel
theorem dX5_sound_10 : decode cX5_sound 10 = .ok (.aload_n 0, 1) := by decide +kernel
theorem dX5_sound_11 : decode cX5_sound 11 = .ok (.getfield 37, 3) := by decide +kernel
theorem dX5_sound_14 : decode cX5_sound 14 = .ok (.iload_n 1, 1) := by decide +kernel
theorem dX5_sound_15 : decode cX5_sound 15 = .ok (.iaload, 1) := by decide +kernel
theorem dX5_sound_16 : decode cX5_sound 16 = .ok (.ifCond .ne 28, 3) := by decide +kernel
theorem dX5_sound_19 : decode cX5_sound 19 = .ok (.iconst 0, 1) := by decide +kernel
theorem dX5_sound_20 : decode cX5_sound 20 = .ok (.aload_n 0, 1) := by decide +kernel
theorem dX5_sound_21 : decode cX5_sound 21 = .ok (.getfield 40, 3) := by decide +kernel
theorem dX5_sound_24 : decode cX5_sound 24 = .ok (.iload_n 1, 1) := by decide +kernel
theorem dX5_sound_25 : decode cX5_sound 25 = .ok (.iaload, 1) := by decide +kernel
theorem dX5_sound_26 : decode cX5_sound 26 = .ok (.aload_n 0, 1) := by decide +kernel
theorem dX5_sound_27 : decode cX5_sound 27 = .ok (.getfield 34, 3) := by decide +kernel
theorem dX5_sound_30 : decode cX5_sound 30 = .ok (.iload_n 1, 1) := by decide +kernel
theorem dX5_sound_31 : decode cX5_sound 31 = .ok (.iaload, 1) := by decide +kernel
theorem dX5_sound_32 : decode cX5_sound 32 = .ok (.iload_n 3, 1) := by decide +kernel
theorem dX5_sound_33 : decode cX5_sound 33 = .ok (.isub, 1) := by decide +kernel
theorem dX5_sound_34 : decode cX5_sound 34 = .ok (.invokestatic 92, 3) := by decide +kernel
theorem dX5_sound_37 : decode cX5_sound 37 = .ok (.isub, 1) := by decide +kernel
theorem dX5_sound_38 : decode cX5_sound 38 = .ok (.invokestatic 97, 3) := by decide +kernel
theorem dX5_sound_41 : decode cX5_sound 41 = .ok (.goto 4, 3) := by decide +kernel
theorem dX5_sound_44 : decode cX5_sound 44 = .ok (.iconst 0, 1) := by decide +kernel
theorem dX5_sound_45 : decode cX5_sound 45 = .ok (.ireturn, 1) := by decide +kernel
set_option maxRecDepth 20000 in
theorem ggX5_loudest_X5_sound : GoodIn wsX5_loudest wsX5_sound := goodIn_r _ [10, 11, 12, 13, 14, 15, 16, 4, 17, 2, 3, 5, 18, 19, 20, 21, 22, 23, 24, 25, 26, 27, 28, 29, 30, 31, 32, 33, 34, 35, 36, 37, 38] (by decide +kernel) (by decide +kernel)
set_option maxRecDepth 20000 in
theorem gX5_loudest_X5_sound : GoodIn wsX5_loudest (wsV RX5 101 RX5 yX5_sound wsX5_sound) := goodIn_app (goodIn_of _ (by decide +kernel)) ggX5_loudest_X5_sound
theorem dX5_loudest_0 : decode cX5_loudest 0 = .ok (.iconst 0, 1) := by decide +kernel
theorem dX5_loudest_1 : decode cX5_loudest 1 = .ok (.istore_n 3, 1) := by decide +kernel
theorem dX5_loudest_2 : decode cX5_loudest 2 = .ok (.iconst 0, 1) := by decide +kernel
theorem dX5_loudest_3 : decode cX5_loudest 3 = .ok (.istore 4, 2) := by decide +kernel
theorem dX5_loudest_5 : decode cX5_loudest 5 = .ok (.iload 4, 2) := by decide +kernel
theorem dX5_loudest_7 : decode cX5_loudest 7 = .ok (.aload_n 0, 1) := by decide +kernel
theorem dX5_loudest_8 : decode cX5_loudest 8 = .ok (.getfield 81, 3) := by decide +kernel
theorem dX5_loudest_11 : decode cX5_loudest 11 = .ok (.if_icmp .ge 22, 3) := by decide +kernel
theorem dX5_loudest_14 : decode cX5_loudest 14 = .ok (.iload_n 3, 1) := by decide +kernel
theorem dX5_loudest_15 : decode cX5_loudest 15 = .ok (.aload_n 0, 1) := by decide +kernel
theorem dX5_loudest_16 : decode cX5_loudest 16 = .ok (.iload 4, 2) := by decide +kernel
theorem dX5_loudest_18 : decode cX5_loudest 18 = .ok (.iload_n 1, 1) := by decide +kernel
theorem dX5_loudest_19 : decode cX5_loudest 19 = .ok (.iload_n 2, 1) := by decide +kernel
theorem dX5_loudest_20 : decode cX5_loudest 20 = .ok (.invokevirtual 101, 3) := by decide +kernel
theorem dX5_loudest_23 : decode cX5_loudest 23 = .ok (.invokestatic 97, 3) := by decide +kernel
theorem dX5_loudest_26 : decode cX5_loudest 26 = .ok (.istore_n 3, 1) := by decide +kernel
theorem dX5_loudest_27 : decode cX5_loudest 27 = .ok (.iinc 4 1, 3) := by decide +kernel
theorem dX5_loudest_30 : decode cX5_loudest 30 = .ok (.goto (-25), 3) := by decide +kernel
theorem dX5_loudest_33 : decode cX5_loudest 33 = .ok (.iload_n 3, 1) := by decide +kernel
theorem dX5_loudest_34 : decode cX5_loudest 34 = .ok (.ireturn, 1) := by decide +kernel
set_option maxRecDepth 20000 in
theorem ggX5_heard_X5_loudest : GoodIn wsX5_heard wsX5_loudest := goodIn_r _ [6, 1, 7, 8, 9, 10, 11, 12, 13, 5, 14, 15, 16, 17, 18, 19, 20, 21, 22, 23, 24, 25, 26, 27, 28, 29, 30, 31, 32, 33, 34, 35, 36, 37, 38, 39, 40, 41, 42] (by decide +kernel) (by decide +kernel)
set_option maxRecDepth 20000 in
theorem gX5_heard_X5_loudest : GoodIn wsX5_heard (wsV RX5 105 RX5 yX5_loudest wsX5_loudest) := goodIn_app (goodIn_of _ (by decide +kernel)) ggX5_heard_X5_loudest
set_option maxRecDepth 20000 in
theorem ggX5_heard_X5_sound : GoodIn wsX5_heard wsX5_sound := goodIn_r _ [14, 15, 16, 17, 18, 19, 20, 9, 21, 7, 8, 10, 22, 23, 24, 25, 26, 27, 28, 29, 30, 31, 32, 33, 34, 35, 36, 37, 38, 39, 40, 41, 42] (by decide +kernel) (by decide +kernel)
set_option maxRecDepth 20000 in
theorem gX5_heard_X5_sound : GoodIn wsX5_heard (wsV RX5 101 RX5 yX5_sound wsX5_sound) := goodIn_app (goodIn_of _ (by decide +kernel)) ggX5_heard_X5_sound
theorem dX5_heard_0 : decode cX5_heard 0 = .ok (.aload_n 0, 1) := by decide +kernel
theorem dX5_heard_1 : decode cX5_heard 1 = .ok (.iload_n 1, 1) := by decide +kernel
theorem dX5_heard_2 : decode cX5_heard 2 = .ok (.iload_n 2, 1) := by decide +kernel
theorem dX5_heard_3 : decode cX5_heard 3 = .ok (.invokevirtual 105, 3) := by decide +kernel
theorem dX5_heard_6 : decode cX5_heard 6 = .ok (.istore_n 3, 1) := by decide +kernel
theorem dX5_heard_7 : decode cX5_heard 7 = .ok (.iconst (-1), 1) := by decide +kernel
theorem dX5_heard_8 : decode cX5_heard 8 = .ok (.istore 4, 2) := by decide +kernel
theorem dX5_heard_10 : decode cX5_heard 10 = .ok (.iconst 0, 1) := by decide +kernel
theorem dX5_heard_11 : decode cX5_heard 11 = .ok (.istore 5, 2) := by decide +kernel
theorem dX5_heard_13 : decode cX5_heard 13 = .ok (.iconst 0, 1) := by decide +kernel
theorem dX5_heard_14 : decode cX5_heard 14 = .ok (.istore 6, 2) := by decide +kernel
theorem dX5_heard_16 : decode cX5_heard 16 = .ok (.iload 6, 2) := by decide +kernel
theorem dX5_heard_18 : decode cX5_heard 18 = .ok (.aload_n 0, 1) := by decide +kernel
theorem dX5_heard_19 : decode cX5_heard 19 = .ok (.getfield 81, 3) := by decide +kernel
theorem dX5_heard_22 : decode cX5_heard 22 = .ok (.if_icmp .ge 48, 3) := by decide +kernel
theorem dX5_heard_25 : decode cX5_heard 25 = .ok (.aload_n 0, 1) := by decide +kernel
theorem dX5_heard_26 : decode cX5_heard 26 = .ok (.iload 6, 2) := by decide +kernel
theorem dX5_heard_28 : decode cX5_heard 28 = .ok (.iload_n 1, 1) := by decide +kernel
theorem dX5_heard_29 : decode cX5_heard 29 = .ok (.iload_n 2, 1) := by decide +kernel
theorem dX5_heard_30 : decode cX5_heard 30 = .ok (.invokevirtual 101, 3) := by decide +kernel
theorem dX5_heard_33 : decode cX5_heard 33 = .ok (.istore 7, 2) := by decide +kernel
theorem dX5_heard_35 : decode cX5_heard 35 = .ok (.iload 7, 2) := by decide +kernel
theorem dX5_heard_37 : decode cX5_heard 37 = .ok (.ifCond .eq 27, 3) := by decide +kernel
theorem dX5_heard_40 : decode cX5_heard 40 = .ok (.iload 7, 2) := by decide +kernel
theorem dX5_heard_42 : decode cX5_heard 42 = .ok (.iload_n 3, 1) := by decide +kernel
theorem dX5_heard_43 : decode cX5_heard 43 = .ok (.iconst 1, 1) := by decide +kernel
theorem dX5_heard_44 : decode cX5_heard 44 = .ok (.isub, 1) := by decide +kernel
theorem dX5_heard_45 : decode cX5_heard 45 = .ok (.if_icmp .ge 6, 3) := by decide +kernel
theorem dX5_heard_48 : decode cX5_heard 48 = .ok (.goto 16, 3) := by decide +kernel
theorem dX5_heard_51 : decode cX5_heard 51 = .ok (.iinc 5 1, 3) := by decide +kernel
theorem dX5_heard_54 : decode cX5_heard 54 = .ok (.iload 7, 2) := by decide +kernel
theorem dX5_heard_56 : decode cX5_heard 56 = .ok (.iload_n 3, 1) := by decide +kernel
theorem dX5_heard_57 : decode cX5_heard 57 = .ok (.if_icmp .ne 7, 3) := by decide +kernel
theorem dX5_heard_60 : decode cX5_heard 60 = .ok (.iload 6, 2) := by decide +kernel
theorem dX5_heard_62 : decode cX5_heard 62 = .ok (.istore 4, 2) := by decide +kernel
theorem dX5_heard_64 : decode cX5_heard 64 = .ok (.iinc 6 1, 3) := by decide +kernel
theorem dX5_heard_67 : decode cX5_heard 67 = .ok (.goto (-51), 3) := by decide +kernel
theorem dX5_heard_70 : decode cX5_heard 70 = .ok (.iload 5, 2) := by decide +kernel
theorem dX5_heard_72 : decode cX5_heard 72 = .ok (.iconst 1, 1) := by decide +kernel
theorem dX5_heard_73 : decode cX5_heard 73 = .ok (.if_icmp .le 8, 3) := by decide +kernel
theorem dX5_heard_76 : decode cX5_heard 76 = .ok (.bipush (-2), 2) := by decide +kernel
theorem dX5_heard_78 : decode cX5_heard 78 = .ok (.goto 5, 3) := by decide +kernel
theorem dX5_heard_81 : decode cX5_heard 81 = .ok (.iload 4, 2) := by decide +kernel
theorem dX5_heard_83 : decode cX5_heard 83 = .ok (.ireturn, 1) := by decide +kernel
theorem dX5_standing_0 : decode cX5_standing 0 = .ok (.iconst 0, 1) := by decide +kernel
theorem dX5_standing_1 : decode cX5_standing 1 = .ok (.istore_n 2, 1) := by decide +kernel
theorem dX5_standing_2 : decode cX5_standing 2 = .ok (.iconst 0, 1) := by decide +kernel
theorem dX5_standing_3 : decode cX5_standing 3 = .ok (.istore_n 3, 1) := by decide +kernel
theorem dX5_standing_4 : decode cX5_standing 4 = .ok (.iload_n 3, 1) := by decide +kernel
theorem dX5_standing_5 : decode cX5_standing 5 = .ok (.aload_n 0, 1) := by decide +kernel
theorem dX5_standing_6 : decode cX5_standing 6 = .ok (.getfield 81, 3) := by decide +kernel
theorem dX5_standing_9 : decode cX5_standing 9 = .ok (.if_icmp .ge 36, 3) := by decide +kernel
theorem dX5_standing_12 : decode cX5_standing 12 = .ok (.iload_n 2, 1) := by decide +kernel
theorem dX5_standing_13 : decode cX5_standing 13 = .ok (.aload_n 0, 1) := by decide +kernel
theorem dX5_standing_14 : decode cX5_standing 14 = .ok (.getfield 31, 3) := by decide +kernel
theorem dX5_standing_17 : decode cX5_standing 17 = .ok (.iload_n 3, 1) := by decide +kernel
theorem dX5_standing_18 : decode cX5_standing 18 = .ok (.iaload, 1) := by decide +kernel
theorem dX5_standing_19 : decode cX5_standing 19 = .ok (.iload_n 1, 1) := by decide +kernel
theorem dX5_standing_20 : decode cX5_standing 20 = .ok (.if_icmp .ne 16, 3) := by decide +kernel
theorem dX5_standing_23 : decode cX5_standing 23 = .ok (.aload_n 0, 1) := by decide +kernel
theorem dX5_standing_24 : decode cX5_standing 24 = .ok (.getfield 37, 3) := by decide +kernel
theorem dX5_standing_27 : decode cX5_standing 27 = .ok (.iload_n 3, 1) := by decide +kernel
theorem dX5_standing_28 : decode cX5_standing 28 = .ok (.iaload, 1) := by decide +kernel
theorem dX5_standing_29 : decode cX5_standing 29 = .ok (.ifCond .ne 7, 3) := by decide +kernel
theorem dX5_standing_32 : decode cX5_standing 32 = .ok (.iconst 1, 1) := by decide +kernel
theorem dX5_standing_33 : decode cX5_standing 33 = .ok (.goto 4, 3) := by decide +kernel
theorem dX5_standing_36 : decode cX5_standing 36 = .ok (.iconst 0, 1) := by decide +kernel
theorem dX5_standing_37 : decode cX5_standing 37 = .ok (.iadd, 1) := by decide +kernel
theorem dX5_standing_38 : decode cX5_standing 38 = .ok (.istore_n 2, 1) := by decide +kernel
theorem dX5_standing_39 : decode cX5_standing 39 = .ok (.iinc 3 1, 3) := by decide +kernel
theorem dX5_standing_42 : decode cX5_standing 42 = .ok (.goto (-38), 3) := by decide +kernel
theorem dX5_standing_45 : decode cX5_standing 45 = .ok (.iload_n 2, 1) := by decide +kernel
theorem dX5_standing_46 : decode cX5_standing 46 = .ok (.ireturn, 1) := by decide +kernel
set_option maxRecDepth 20000 in
theorem ggX5_pitchesWith_X5_heard : GoodIn wsX5_pitchesWith wsX5_heard := goodIn_r _ [6, 7, 8, 9, 10, 5, 11, 12, 13, 14, 15, 16, 17, 18, 19, 20, 21, 22, 23, 24, 25, 26, 27, 28, 29, 30, 31, 32, 33, 34, 35, 36, 37, 38, 39, 40, 41, 42, 43, 44, 45, 46, 47] (by decide +kernel) (by decide +kernel)
set_option maxRecDepth 20000 in
theorem gX5_pitchesWith_X5_heard : GoodIn wsX5_pitchesWith (wsV RX5 108 RX5 yX5_heard wsX5_heard) := goodIn_app (goodIn_of _ (by decide +kernel)) ggX5_pitchesWith_X5_heard
theorem dX5_pitchesWith_0 : decode cX5_pitchesWith 0 = .ok (.iconst 0, 1) := by decide +kernel
theorem dX5_pitchesWith_1 : decode cX5_pitchesWith 1 = .ok (.istore_n 3, 1) := by decide +kernel
theorem dX5_pitchesWith_2 : decode cX5_pitchesWith 2 = .ok (.iconst 0, 1) := by decide +kernel
theorem dX5_pitchesWith_3 : decode cX5_pitchesWith 3 = .ok (.istore 4, 2) := by decide +kernel
theorem dX5_pitchesWith_5 : decode cX5_pitchesWith 5 = .ok (.iload 4, 2) := by decide +kernel
theorem dX5_pitchesWith_7 : decode cX5_pitchesWith 7 = .ok (.aload_n 0, 1) := by decide +kernel
theorem dX5_pitchesWith_8 : decode cX5_pitchesWith 8 = .ok (.getfield 15, 3) := by decide +kernel
theorem dX5_pitchesWith_11 : decode cX5_pitchesWith 11 = .ok (.iload_n 1, 1) := by decide +kernel
theorem dX5_pitchesWith_12 : decode cX5_pitchesWith 12 = .ok (.iaload, 1) := by decide +kernel
theorem dX5_pitchesWith_13 : decode cX5_pitchesWith 13 = .ok (.if_icmp .ge 51, 3) := by decide +kernel
theorem dX5_pitchesWith_16 : decode cX5_pitchesWith 16 = .ok (.iload_n 3, 1) := by decide +kernel
theorem dX5_pitchesWith_17 : decode cX5_pitchesWith 17 = .ok (.iload_n 2, 1) := by decide +kernel
theorem dX5_pitchesWith_18 : decode cX5_pitchesWith 18 = .ok (.ifCond .eq 23, 3) := by decide +kernel
theorem dX5_pitchesWith_21 : decode cX5_pitchesWith 21 = .ok (.aload_n 0, 1) := by decide +kernel
theorem dX5_pitchesWith_22 : decode cX5_pitchesWith 22 = .ok (.iload_n 1, 1) := by decide +kernel
theorem dX5_pitchesWith_23 : decode cX5_pitchesWith 23 = .ok (.iload 4, 2) := by decide +kernel
theorem dX5_pitchesWith_25 : decode cX5_pitchesWith 25 = .ok (.invokevirtual 108, 3) := by decide +kernel
theorem dX5_pitchesWith_28 : decode cX5_pitchesWith 28 = .ok (.bipush (-2), 2) := by decide +kernel
theorem dX5_pitchesWith_30 : decode cX5_pitchesWith 30 = .ok (.if_icmp .ne 7, 3) := by decide +kernel
theorem dX5_pitchesWith_33 : decode cX5_pitchesWith 33 = .ok (.iconst 1, 1) := by decide +kernel
theorem dX5_pitchesWith_34 : decode cX5_pitchesWith 34 = .ok (.goto 22, 3) := by decide +kernel
theorem dX5_pitchesWith_37 : decode cX5_pitchesWith 37 = .ok (.iconst 0, 1) := by decide +kernel
theorem dX5_pitchesWith_38 : decode cX5_pitchesWith 38 = .ok (.goto 18, 3) := by decide +kernel
theorem dX5_pitchesWith_41 : decode cX5_pitchesWith 41 = .ok (.aload_n 0, 1) := by decide +kernel
theorem dX5_pitchesWith_42 : decode cX5_pitchesWith 42 = .ok (.iload_n 1, 1) := by decide +kernel
theorem dX5_pitchesWith_43 : decode cX5_pitchesWith 43 = .ok (.iload 4, 2) := by decide +kernel
theorem dX5_pitchesWith_45 : decode cX5_pitchesWith 45 = .ok (.invokevirtual 108, 3) := by decide +kernel
theorem dX5_pitchesWith_48 : decode cX5_pitchesWith 48 = .ok (.ifCond .lt 7, 3) := by decide +kernel
theorem dX5_pitchesWith_51 : decode cX5_pitchesWith 51 = .ok (.iconst 1, 1) := by decide +kernel
theorem dX5_pitchesWith_52 : decode cX5_pitchesWith 52 = .ok (.goto 4, 3) := by decide +kernel
theorem dX5_pitchesWith_55 : decode cX5_pitchesWith 55 = .ok (.iconst 0, 1) := by decide +kernel
theorem dX5_pitchesWith_56 : decode cX5_pitchesWith 56 = .ok (.iadd, 1) := by decide +kernel
theorem dX5_pitchesWith_57 : decode cX5_pitchesWith 57 = .ok (.istore_n 3, 1) := by decide +kernel
theorem dX5_pitchesWith_58 : decode cX5_pitchesWith 58 = .ok (.iinc 4 1, 3) := by decide +kernel
