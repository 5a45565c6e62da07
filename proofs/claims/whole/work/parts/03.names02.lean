theorem dX0_init_0 : decode cX0_init 0 = .ok (.aload_n 0, 1) := by decide +kernel
theorem dX0_init_1 : decode cX0_init 1 = .ok (.invokespecial 3, 3) := by decide +kernel
theorem dX0_init_4 : decode cX0_init 4 = .ok (.aload_n 0, 1) := by decide +kernel
theorem dX0_init_5 : decode cX0_init 5 = .ok (.bipush 8, 2) := by decide +kernel
theorem dX0_init_7 : decode cX0_init 7 = .ok (.newarray .int, 2) := by decide +kernel
theorem dX0_init_9 : decode cX0_init 9 = .ok (.putfield 9, 3) := by decide +kernel
theorem dX0_init_12 : decode cX0_init 12 = .ok (.aload_n 0, 1) := by decide +kernel
theorem dX0_init_13 : decode cX0_init 13 = .ok (.bipush 6, 2) := by decide +kernel
theorem dX0_init_15 : decode cX0_init 15 = .ok (.newarray .int, 2) := by decide +kernel
theorem dX0_init_17 : decode cX0_init 17 = .ok (.putfield 15, 3) := by decide +kernel
theorem dX0_init_20 : decode cX0_init 20 = .ok (.aload_n 0, 1) := by decide +kernel
theorem dX0_init_21 : decode cX0_init 21 = .ok (.bipush 6, 2) := by decide +kernel
theorem dX0_init_23 : decode cX0_init 23 = .ok (.newarray .int, 2) := by decide +kernel
theorem dX0_init_25 : decode cX0_init 25 = .ok (.putfield 18, 3) := by decide +kernel
theorem dX0_init_28 : decode cX0_init 28 = .ok (.aload_n 0, 1) := by decide +kernel
theorem dX0_init_29 : decode cX0_init 29 = .ok (.bipush 6, 2) := by decide +kernel
theorem dX0_init_31 : decode cX0_init 31 = .ok (.newarray .int, 2) := by decide +kernel
theorem dX0_init_33 : decode cX0_init 33 = .ok (.putfield 21, 3) := by decide +kernel
theorem dX0_init_36 : decode cX0_init 36 = .ok (.return_, 1) := by decide +kernel
theorem dX0_copyFrom_0 : decode cX0_copyFrom 0 = .ok (.aload_n 1, 1) := by decide +kernel
theorem dX0_copyFrom_1 : decode cX0_copyFrom 1 = .ok (.getfield 9, 3) := by decide +kernel
theorem dX0_copyFrom_4 : decode cX0_copyFrom 4 = .ok (.iconst 0, 1) := by decide +kernel
theorem dX0_copyFrom_5 : decode cX0_copyFrom 5 = .ok (.aload_n 0, 1) := by decide +kernel
theorem dX0_copyFrom_6 : decode cX0_copyFrom 6 = .ok (.getfield 9, 3) := by decide +kernel
theorem dX0_copyFrom_9 : decode cX0_copyFrom 9 = .ok (.iconst 0, 1) := by decide +kernel
theorem dX0_copyFrom_10 : decode cX0_copyFrom 10 = .ok (.bipush 8, 2) := by decide +kernel
theorem dX0_copyFrom_12 : decode cX0_copyFrom 12 = .ok (.invokestatic 24, 3) := by decide +kernel
theorem dX0_copyFrom_15 : decode cX0_copyFrom 15 = .ok (.aload_n 1, 1) := by decide +kernel
theorem dX0_copyFrom_16 : decode cX0_copyFrom 16 = .ok (.getfield 15, 3) := by decide +kernel
theorem dX0_copyFrom_19 : decode cX0_copyFrom 19 = .ok (.iconst 0, 1) := by decide +kernel
theorem dX0_copyFrom_20 : decode cX0_copyFrom 20 = .ok (.aload_n 0, 1) := by decide +kernel
theorem dX0_copyFrom_21 : decode cX0_copyFrom 21 = .ok (.getfield 15, 3) := by decide +kernel
theorem dX0_copyFrom_24 : decode cX0_copyFrom 24 = .ok (.iconst 0, 1) := by decide +kernel
theorem dX0_copyFrom_25 : decode cX0_copyFrom 25 = .ok (.bipush 6, 2) := by decide +kernel
theorem dX0_copyFrom_27 : decode cX0_copyFrom 27 = .ok (.invokestatic 24, 3) := by decide +kernel
theorem dX0_copyFrom_30 : decode cX0_copyFrom 30 = .ok (.aload_n 1, 1) := by decide +kernel
theorem dX0_copyFrom_31 : decode cX0_copyFrom 31 = .ok (.getfield 18, 3) := by decide +kernel
theorem dX0_copyFrom_34 : decode cX0_copyFrom 34 = .ok (.iconst 0, 1) := by decide +kernel
theorem dX0_copyFrom_35 : decode cX0_copyFrom 35 = .ok (.aload_n 0, 1) := by decide +kernel
theorem dX0_copyFrom_36 : decode cX0_copyFrom 36 = .ok (.getfield 18, 3) := by decide +kernel
theorem dX0_copyFrom_39 : decode cX0_copyFrom 39 = .ok (.iconst 0, 1) := by decide +kernel
theorem dX0_copyFrom_40 : decode cX0_copyFrom 40 = .ok (.bipush 6, 2) := by decide +kernel
theorem dX0_copyFrom_42 : decode cX0_copyFrom 42 = .ok (.invokestatic 24, 3) := by decide +kernel
theorem dX0_copyFrom_45 : decode cX0_copyFrom 45 = .ok (.aload_n 1, 1) := by decide +kernel
theorem dX0_copyFrom_46 : decode cX0_copyFrom 46 = .ok (.getfield 21, 3) := by decide +kernel
theorem dX0_copyFrom_49 : decode cX0_copyFrom 49 = .ok (.iconst 0, 1) := by decide +kernel
theorem dX0_copyFrom_50 : decode cX0_copyFrom 50 = .ok (.aload_n 0, 1) := by decide +kernel
theorem dX0_copyFrom_51 : decode cX0_copyFrom 51 = .ok (.getfield 21, 3) := by decide +kernel
theorem dX0_copyFrom_54 : decode cX0_copyFrom 54 = .ok (.iconst 0, 1) := by decide +kernel
theorem dX0_copyFrom_55 : decode cX0_copyFrom 55 = .ok (.bipush 6, 2) := by decide +kernel
theorem dX0_copyFrom_57 : decode cX0_copyFrom 57 = .ok (.invokestatic 24, 3) := by decide +kernel
theorem dX0_copyFrom_60 : decode cX0_copyFrom 60 = .ok (.aload_n 0, 1) := by decide +kernel
theorem dX0_copyFrom_61 : decode cX0_copyFrom 61 = .ok (.aload_n 1, 1) := by decide +kernel
theorem dX0_copyFrom_62 : decode cX0_copyFrom 62 = .ok (.getfield 30, 3) := by decide +kernel
theorem dX0_copyFrom_65 : decode cX0_copyFrom 65 = .ok (.putfield 30, 3) := by decide +kernel
theorem dX0_copyFrom_68 : decode cX0_copyFrom 68 = .ok (.aload_n 0, 1) := by decide +kernel
theorem dX0_copyFrom_69 : decode cX0_copyFrom 69 = .ok (.aload_n 1, 1) := by decide +kernel
theorem dX0_copyFrom_70 : decode cX0_copyFrom 70 = .ok (.getfield 34, 3) := by decide +kernel
theorem dX0_copyFrom_73 : decode cX0_copyFrom 73 = .ok (.putfield 34, 3) := by decide +kernel
theorem dX0_copyFrom_76 : decode cX0_copyFrom 76 = .ok (.aload_n 0, 1) := by decide +kernel
theorem dX0_copyFrom_77 : decode cX0_copyFrom 77 = .ok (.aload_n 1, 1) := by decide +kernel
theorem dX0_copyFrom_78 : decode cX0_copyFrom 78 = .ok (.getfield 37, 3) := by decide +kernel
theorem dX0_copyFrom_81 : decode cX0_copyFrom 81 = .ok (.putfield 37, 3) := by decide +kernel
theorem dX0_copyFrom_84 : decode cX0_copyFrom 84 = .ok (.aload_n 0, 1) := by decide +kernel
theorem dX0_copyFrom_85 : decode cX0_copyFrom 85 = .ok (.aload_n 1, 1) := by decide +kernel
theorem dX0_copyFrom_86 : decode cX0_copyFrom 86 = .ok (.getfield 40, 3) := by decide +kernel
theorem dX0_copyFrom_89 : decode cX0_copyFrom 89 = .ok (.putfield 40, 3) := by decide +kernel
theorem dX0_copyFrom_92 : decode cX0_copyFrom 92 = .ok (.aload_n 0, 1) := by decide +kernel
theorem dX0_copyFrom_93 : decode cX0_copyFrom 93 = .ok (.aload_n 1, 1) := by decide +kernel
theorem dX0_copyFrom_94 : decode cX0_copyFrom 94 = .ok (.getfield 43, 3) := by decide +kernel
theorem dX0_copyFrom_97 : decode cX0_copyFrom 97 = .ok (.putfield 43, 3) := by decide +kernel
theorem dX0_copyFrom_100 : decode cX0_copyFrom 100 = .ok (.aload_n 0, 1) := by decide +kernel
theorem dX0_copyFrom_101 : decode cX0_copyFrom 101 = .ok (.aload_n 1, 1) := by decide +kernel
theorem dX0_copyFrom_102 : decode cX0_copyFrom 102 = .ok (.getfield 46, 3) := by decide +kernel
theorem dX0_copyFrom_105 : decode cX0_copyFrom 105 = .ok (.putfield 46, 3) := by decide +kernel
theorem dX0_copyFrom_108 : decode cX0_copyFrom 108 = .ok (.aload_n 0, 1) := by decide +kernel
theorem dX0_copyFrom_109 : decode cX0_copyFrom 109 = .ok (.aload_n 1, 1) := by decide +kernel
theorem dX0_copyFrom_110 : decode cX0_copyFrom 110 = .ok (.getfield 49, 3) := by decide +kernel
theorem dX0_copyFrom_113 : decode cX0_copyFrom 113 = .ok (.putfield 49, 3) := by decide +kernel
theorem dX0_copyFrom_116 : decode cX0_copyFrom 116 = .ok (.aload_n 0, 1) := by decide +kernel
theorem dX0_copyFrom_117 : decode cX0_copyFrom 117 = .ok (.aload_n 1, 1) := by decide +kernel
theorem dX0_copyFrom_118 : decode cX0_copyFrom 118 = .ok (.getfield 52, 3) := by decide +kernel
theorem dX0_copyFrom_121 : decode cX0_copyFrom 121 = .ok (.putfield 52, 3) := by decide +kernel
theorem dX0_copyFrom_124 : decode cX0_copyFrom 124 = .ok (.return_, 1) := by decide +kernel
set_option maxRecDepth 20000 in
theorem ggX0_putBarrel_J7_fill_53178 : GoodIn wsX0_putBarrel wsJ7_fill_53178 := goodIn_r _ [13] (by decide +kernel) (by decide +kernel)
set_option maxRecDepth 20000 in
theorem gX0_putBarrel_J7_fill_53178 : GoodIn wsX0_putBarrel (va_wsS RX0 61 yJ7_fill_53178 wsJ7_fill_53178) := goodIn_app (goodIn_of _ (by decide +kernel)) ggX0_putBarrel_J7_fill_53178
theorem dX0_putBarrel_0 : decode cX0_putBarrel 0 = .ok (.aload_n 0, 1) := by decide +kernel
theorem dX0_putBarrel_1 : decode cX0_putBarrel 1 = .ok (.iload_n 1, 1) := by decide +kernel
theorem dX0_putBarrel_2 : decode cX0_putBarrel 2 = .ok (.putfield 46, 3) := by decide +kernel
theorem dX0_putBarrel_5 : decode cX0_putBarrel 5 = .ok (.aload_n 0, 1) := by decide +kernel
theorem dX0_putBarrel_6 : decode cX0_putBarrel 6 = .ok (.iconst 0, 1) := by decide +kernel
theorem dX0_putBarrel_7 : decode cX0_putBarrel 7 = .ok (.putfield 49, 3) := by decide +kernel
theorem dX0_putBarrel_10 : decode cX0_putBarrel 10 = .ok (.iload_n 1, 1) := by decide +kernel
theorem dX0_putBarrel_11 : decode cX0_putBarrel 11 = .ok (.istore_n 2, 1) := by decide +kernel
theorem dX0_putBarrel_12 : decode cX0_putBarrel 12 = .ok (.iload_n 2, 1) := by decide +kernel
theorem dX0_putBarrel_13 : decode cX0_putBarrel 13 = .ok (.ifCond .le 21, 3) := by decide +kernel
theorem dX0_putBarrel_16 : decode cX0_putBarrel 16 = .ok (.aload_n 0, 1) := by decide +kernel
theorem dX0_putBarrel_17 : decode cX0_putBarrel 17 = .ok (.dup, 1) := by decide +kernel
theorem dX0_putBarrel_18 : decode cX0_putBarrel 18 = .ok (.getfield 49, 3) := by decide +kernel
theorem dX0_putBarrel_21 : decode cX0_putBarrel 21 = .ok (.iconst 1, 1) := by decide +kernel
theorem dX0_putBarrel_22 : decode cX0_putBarrel 22 = .ok (.iadd, 1) := by decide +kernel
theorem dX0_putBarrel_23 : decode cX0_putBarrel 23 = .ok (.putfield 49, 3) := by decide +kernel
theorem dX0_putBarrel_26 : decode cX0_putBarrel 26 = .ok (.iload_n 2, 1) := by decide +kernel
theorem dX0_putBarrel_27 : decode cX0_putBarrel 27 = .ok (.bipush 10, 2) := by decide +kernel
theorem dX0_putBarrel_29 : decode cX0_putBarrel 29 = .ok (.idiv, 1) := by decide +kernel
theorem dX0_putBarrel_30 : decode cX0_putBarrel 30 = .ok (.istore_n 2, 1) := by decide +kernel
theorem dX0_putBarrel_31 : decode cX0_putBarrel 31 = .ok (.goto (-19), 3) := by decide +kernel
theorem dX0_putBarrel_34 : decode cX0_putBarrel 34 = .ok (.iload_n 1, 1) := by decide +kernel
theorem dX0_putBarrel_35 : decode cX0_putBarrel 35 = .ok (.istore_n 2, 1) := by decide +kernel
theorem dX0_putBarrel_36 : decode cX0_putBarrel 36 = .ok (.aload_n 0, 1) := by decide +kernel
theorem dX0_putBarrel_37 : decode cX0_putBarrel 37 = .ok (.getfield 49, 3) := by decide +kernel
theorem dX0_putBarrel_40 : decode cX0_putBarrel 40 = .ok (.bipush 8, 2) := by decide +kernel
theorem dX0_putBarrel_42 : decode cX0_putBarrel 42 = .ok (.invokestatic 55, 3) := by decide +kernel
theorem dX0_putBarrel_45 : decode cX0_putBarrel 45 = .ok (.iconst 1, 1) := by decide +kernel
theorem dX0_putBarrel_46 : decode cX0_putBarrel 46 = .ok (.isub, 1) := by decide +kernel
theorem dX0_putBarrel_47 : decode cX0_putBarrel 47 = .ok (.istore_n 3, 1) := by decide +kernel
theorem dX0_putBarrel_48 : decode cX0_putBarrel 48 = .ok (.iload_n 3, 1) := by decide +kernel
theorem dX0_putBarrel_49 : decode cX0_putBarrel 49 = .ok (.ifCond .lt 26, 3) := by decide +kernel
theorem dX0_putBarrel_52 : decode cX0_putBarrel 52 = .ok (.aload_n 0, 1) := by decide +kernel
theorem dX0_putBarrel_53 : decode cX0_putBarrel 53 = .ok (.getfield 9, 3) := by decide +kernel
theorem dX0_putBarrel_56 : decode cX0_putBarrel 56 = .ok (.iload_n 3, 1) := by decide +kernel
theorem dX0_putBarrel_57 : decode cX0_putBarrel 57 = .ok (.iload_n 2, 1) := by decide +kernel
theorem dX0_putBarrel_58 : decode cX0_putBarrel 58 = .ok (.bipush 10, 2) := by decide +kernel
theorem dX0_putBarrel_60 : decode cX0_putBarrel 60 = .ok (.irem, 1) := by decide +kernel
theorem dX0_putBarrel_61 : decode cX0_putBarrel 61 = .ok (.iconst 1, 1) := by decide +kernel
theorem dX0_putBarrel_62 : decode cX0_putBarrel 62 = .ok (.isub, 1) := by decide +kernel
theorem dX0_putBarrel_63 : decode cX0_putBarrel 63 = .ok (.iastore, 1) := by decide +kernel
theorem dX0_putBarrel_64 : decode cX0_putBarrel 64 = .ok (.iload_n 2, 1) := by decide +kernel
theorem dX0_putBarrel_65 : decode cX0_putBarrel 65 = .ok (.bipush 10, 2) := by decide +kernel
theorem dX0_putBarrel_67 : decode cX0_putBarrel 67 = .ok (.idiv, 1) := by decide +kernel
theorem dX0_putBarrel_68 : decode cX0_putBarrel 68 = .ok (.istore_n 2, 1) := by decide +kernel
theorem dX0_putBarrel_69 : decode cX0_putBarrel 69 = .ok (.iinc 3 (-1), 3) := by decide +kernel
theorem dX0_putBarrel_72 : decode cX0_putBarrel 72 = .ok (.goto (-24), 3) := by decide +kernel
theorem dX0_putBarrel_75 : decode cX0_putBarrel 75 = .ok (.aload_n 0, 1) := by decide +kernel
theorem dX0_putBarrel_76 : decode cX0_putBarrel 76 = .ok (.iconst 0, 1) := by decide +kernel
theorem dX0_putBarrel_77 : decode cX0_putBarrel 77 = .ok (.putfield 52, 3) := by decide +kernel
theorem dX0_putBarrel_80 : decode cX0_putBarrel 80 = .ok (.aload_n 0, 1) := by decide +kernel
theorem dX0_putBarrel_81 : decode cX0_putBarrel 81 = .ok (.getfield 15, 3) := by decide +kernel
theorem dX0_putBarrel_84 : decode cX0_putBarrel 84 = .ok (.iconst 0, 1) := by decide +kernel
theorem dX0_putBarrel_85 : decode cX0_putBarrel 85 = .ok (.invokestatic 61, 3) := by decide +kernel
theorem dX0_putBarrel_88 : decode cX0_putBarrel 88 = .ok (.return_, 1) := by decide +kernel
theorem dX0_moveTo_0 : decode cX0_moveTo 0 = .ok (.aload_n 0, 1) := by decide +kernel
theorem dX0_moveTo_1 : decode cX0_moveTo 1 = .ok (.iload_n 1, 1) := by decide +kernel
theorem dX0_moveTo_2 : decode cX0_moveTo 2 = .ok (.putfield 30, 3) := by decide +kernel
theorem dX0_moveTo_5 : decode cX0_moveTo 5 = .ok (.aload_n 0, 1) := by decide +kernel
theorem dX0_moveTo_6 : decode cX0_moveTo 6 = .ok (.iload_n 2, 1) := by decide +kernel
theorem dX0_moveTo_7 : decode cX0_moveTo 7 = .ok (.putfield 34, 3) := by decide +kernel
theorem dX0_moveTo_10 : decode cX0_moveTo 10 = .ok (.aload_n 0, 1) := by decide +kernel
theorem dX0_moveTo_11 : decode cX0_moveTo 11 = .ok (.iload_n 3, 1) := by decide +kernel
theorem dX0_moveTo_12 : decode cX0_moveTo 12 = .ok (.putfield 37, 3) := by decide +kernel
theorem dX0_moveTo_15 : decode cX0_moveTo 15 = .ok (.return_, 1) := by decide +kernel
theorem dX0_hoursTo_0 : decode cX0_hoursTo 0 = .ok (.iload_n 1, 1) := by decide +kernel
theorem dX0_hoursTo_1 : decode cX0_hoursTo 1 = .ok (.aload_n 0, 1) := by decide +kernel
theorem dX0_hoursTo_2 : decode cX0_hoursTo 2 = .ok (.getfield 30, 3) := by decide +kernel
theorem dX0_hoursTo_5 : decode cX0_hoursTo 5 = .ok (.if_icmp .ne 15, 3) := by decide +kernel
theorem dX0_hoursTo_8 : decode cX0_hoursTo 8 = .ok (.iload_n 2, 1) := by decide +kernel
theorem dX0_hoursTo_9 : decode cX0_hoursTo 9 = .ok (.aload_n 0, 1) := by decide +kernel
theorem dX0_hoursTo_10 : decode cX0_hoursTo 10 = .ok (.getfield 34, 3) := by decide +kernel
theorem dX0_hoursTo_13 : decode cX0_hoursTo 13 = .ok (.isub, 1) := by decide +kernel
theorem dX0_hoursTo_14 : decode cX0_hoursTo 14 = .ok (.invokestatic 67, 3) := by decide +kernel
theorem dX0_hoursTo_17 : decode cX0_hoursTo 17 = .ok (.iconst 5, 1) := by decide +kernel
theorem dX0_hoursTo_18 : decode cX0_hoursTo 18 = .ok (.idiv, 1) := by decide +kernel
theorem dX0_hoursTo_19 : decode cX0_hoursTo 19 = .ok (.ireturn, 1) := by decide +kernel
theorem dX0_hoursTo_20 : decode cX0_hoursTo 20 = .ok (.iconst 2, 1) := by decide +kernel
theorem dX0_hoursTo_21 : decode cX0_hoursTo 21 = .ok (.iload_n 1, 1) := by decide +kernel
theorem dX0_hoursTo_22 : decode cX0_hoursTo 22 = .ok (.aload_n 0, 1) := by decide +kernel
theorem dX0_hoursTo_23 : decode cX0_hoursTo 23 = .ok (.getfield 30, 3) := by decide +kernel
theorem dX0_hoursTo_26 : decode cX0_hoursTo 26 = .ok (.isub, 1) := by decide +kernel
theorem dX0_hoursTo_27 : decode cX0_hoursTo 27 = .ok (.invokestatic 67, 3) := by decide +kernel
theorem dX0_hoursTo_30 : decode cX0_hoursTo 30 = .ok (.imul, 1) := by decide +kernel
theorem dX0_hoursTo_31 : decode cX0_hoursTo 31 = .ok (.ireturn, 1) := by decide +kernel
theorem dX0_standsIn_0 : decode cX0_standsIn 0 = .ok (.aload_n 0, 1) := by decide +kernel
theorem dX0_standsIn_1 : decode cX0_standsIn 1 = .ok (.getfield 37, 3) := by decide +kernel
theorem dX0_standsIn_4 : decode cX0_standsIn 4 = .ok (.ifCond .ne 15, 3) := by decide +kernel
theorem dX0_standsIn_7 : decode cX0_standsIn 7 = .ok (.aload_n 0, 1) := by decide +kernel
theorem dX0_standsIn_8 : decode cX0_standsIn 8 = .ok (.getfield 30, 3) := by decide +kernel
theorem dX0_standsIn_11 : decode cX0_standsIn 11 = .ok (.iload_n 1, 1) := by decide +kernel
theorem dX0_standsIn_12 : decode cX0_standsIn 12 = .ok (.if_icmp .ne 7, 3) := by decide +kernel
theorem dX0_standsIn_15 : decode cX0_standsIn 15 = .ok (.iconst 1, 1) := by decide +kernel
theorem dX0_standsIn_16 : decode cX0_standsIn 16 = .ok (.goto 4, 3) := by decide +kernel
theorem dX0_standsIn_19 : decode cX0_standsIn 19 = .ok (.iconst 0, 1) := by decide +kernel
theorem dX0_standsIn_20 : decode cX0_standsIn 20 = .ok (.ireturn, 1) := by decide +kernel
set_option maxRecDepth 20000 in
theorem ggX0_soundAt_X0_standsIn : GoodIn wsX0_soundAt wsX0_standsIn := goodIn_r _ [14, 15, 16, 17, 18, 19, 20, 21, 22, 23, 24, 25, 26, 27, 28] (by decide +kernel) (by decide +kernel)
set_option maxRecDepth 20000 in
theorem gX0_soundAt_X0_standsIn : GoodIn wsX0_soundAt (wsV RX0 71 RX0 yX0_standsIn wsX0_standsIn) := goodIn_app (goodIn_of _ (by decide +kernel)) ggX0_soundAt_X0_standsIn
theorem dX0_soundAt_0 : decode cX0_soundAt 0 = .ok (.aload_n 0, 1) := by decide +kernel
theorem dX0_soundAt_1 : decode cX0_soundAt 1 = .ok (.iload_n 1, 1) := by decide +kernel
theorem dX0_soundAt_2 : decode cX0_soundAt 2 = .ok (.invokevirtual 71, 3) := by decide +kernel
theorem dX0_soundAt_5 : decode cX0_soundAt 5 = .ok (.ifCond .ne 5, 3) := by decide +kernel
theorem dX0_soundAt_8 : decode cX0_soundAt 8 = .ok (.iconst 0, 1) := by decide +kernel
theorem dX0_soundAt_9 : decode cX0_soundAt 9 = .ok (.ireturn, 1) := by decide +kernel
theorem dX0_soundAt_10 : decode cX0_soundAt 10 = .ok (.iconst 0, 1) := by decide +kernel
theorem dX0_soundAt_11 : decode cX0_soundAt 11 = .ok (.aload_n 0, 1) := by decide +kernel
theorem dX0_soundAt_12 : decode cX0_soundAt 12 = .ok (.getfield 40, 3) := by decide +kernel
theorem dX0_soundAt_15 : decode cX0_soundAt 15 = .ok (.iload_n 2, 1) := by decide +kernel
theorem dX0_soundAt_16 : decode cX0_soundAt 16 = .ok (.aload_n 0, 1) := by decide +kernel
theorem dX0_soundAt_17 : decode cX0_soundAt 17 = .ok (.getfield 34, 3) := by decide +kernel
theorem dX0_soundAt_20 : decode cX0_soundAt 20 = .ok (.isub, 1) := by decide +kernel
theorem dX0_soundAt_21 : decode cX0_soundAt 21 = .ok (.invokestatic 67, 3) := by decide +kernel
theorem dX0_soundAt_24 : decode cX0_soundAt 24 = .ok (.isub, 1) := by decide +kernel
theorem dX0_soundAt_25 : decode cX0_soundAt 25 = .ok (.invokestatic 75, 3) := by decide +kernel
theorem dX0_soundAt_28 : decode cX0_soundAt 28 = .ok (.ireturn, 1) := by decide +kernel
theorem dX0_nextTune_0 : decode cX0_nextTune 0 = .ok (.aload_n 0, 1) := by decide +kernel
theorem dX0_nextTune_1 : decode cX0_nextTune 1 = .ok (.getfield 52, 3) := by decide +kernel
theorem dX0_nextTune_4 : decode cX0_nextTune 4 = .ok (.ifCond .lt 24, 3) := by decide +kernel
theorem dX0_nextTune_7 : decode cX0_nextTune 7 = .ok (.aload_n 0, 1) := by decide +kernel
theorem dX0_nextTune_8 : decode cX0_nextTune 8 = .ok (.getfield 52, 3) := by decide +kernel
theorem dX0_nextTune_11 : decode cX0_nextTune 11 = .ok (.bipush 8, 2) := by decide +kernel
theorem dX0_nextTune_13 : decode cX0_nextTune 13 = .ok (.if_icmp .ge 15, 3) := by decide +kernel
theorem dX0_nextTune_16 : decode cX0_nextTune 16 = .ok (.aload_n 0, 1) := by decide +kernel
theorem dX0_nextTune_17 : decode cX0_nextTune 17 = .ok (.getfield 9, 3) := by decide +kernel
theorem dX0_nextTune_20 : decode cX0_nextTune 20 = .ok (.aload_n 0, 1) := by decide +kernel
theorem dX0_nextTune_21 : decode cX0_nextTune 21 = .ok (.getfield 52, 3) := by decide +kernel
theorem dX0_nextTune_24 : decode cX0_nextTune 24 = .ok (.iaload, 1) := by decide +kernel
theorem dX0_nextTune_25 : decode cX0_nextTune 25 = .ok (.goto 4, 3) := by decide +kernel
theorem dX0_nextTune_28 : decode cX0_nextTune 28 = .ok (.iconst 0, 1) := by decide +kernel
theorem dX0_nextTune_29 : decode cX0_nextTune 29 = .ok (.ireturn, 1) := by decide +kernel
set_option maxRecDepth 20000 in
theorem ggX0_nextWear_X0_nextTune : GoodIn wsX0_nextWear wsX0_nextTune := goodIn_r _ [6, 7, 8, 9, 10, 11, 12, 13, 14, 15, 16, 17, 18, 19, 20] (by decide +kernel) (by decide +kernel)
set_option maxRecDepth 20000 in
theorem gX0_nextWear_X0_nextTune : GoodIn wsX0_nextWear (wsV RX0 78 RX0 yX0_nextTune wsX0_nextTune) := goodIn_app (goodIn_of _ (by decide +kernel)) ggX0_nextWear_X0_nextTune
theorem dX0_nextWear_0 : decode cX0_nextWear 0 = .ok (.aload_n 0, 1) := by decide +kernel
theorem dX0_nextWear_1 : decode cX0_nextWear 1 = .ok (.invokevirtual 78, 3) := by decide +kernel
theorem dX0_nextWear_4 : decode cX0_nextWear 4 = .ok (.istore_n 1, 1) := by decide +kernel
theorem dX0_nextWear_5 : decode cX0_nextWear 5 = .ok (.iload_n 1, 1) := by decide +kernel
theorem dX0_nextWear_6 : decode cX0_nextWear 6 = .ok (.ifCond .lt 18, 3) := by decide +kernel
theorem dX0_nextWear_9 : decode cX0_nextWear 9 = .ok (.iload_n 1, 1) := by decide +kernel
theorem dX0_nextWear_10 : decode cX0_nextWear 10 = .ok (.bipush 6, 2) := by decide +kernel
theorem dX0_nextWear_12 : decode cX0_nextWear 12 = .ok (.if_icmp .ge 12, 3) := by decide +kernel
theorem dX0_nextWear_15 : decode cX0_nextWear 15 = .ok (.aload_n 0, 1) := by decide +kernel
theorem dX0_nextWear_16 : decode cX0_nextWear 16 = .ok (.getfield 15, 3) := by decide +kernel
theorem dX0_nextWear_19 : decode cX0_nextWear 19 = .ok (.iload_n 1, 1) := by decide +kernel
theorem dX0_nextWear_20 : decode cX0_nextWear 20 = .ok (.iaload, 1) := by decide +kernel
theorem dX0_nextWear_21 : decode cX0_nextWear 21 = .ok (.goto 4, 3) := by decide +kernel
theorem dX0_nextWear_24 : decode cX0_nextWear 24 = .ok (.iconst 0, 1) := by decide +kernel
theorem dX0_nextWear_25 : decode cX0_nextWear 25 = .ok (.ireturn, 1) := by decide +kernel
set_option maxRecDepth 20000 in
theorem ggX0_turn_X0_nextTune : GoodIn wsX0_turn wsX0_nextTune := goodIn_r _ [12, 6, 13, 14, 15, 16, 17, 18, 19, 20, 21, 22, 23, 24, 25] (by decide +kernel) (by decide +kernel)
set_option maxRecDepth 20000 in
theorem gX0_turn_X0_nextTune : GoodIn wsX0_turn (wsV RX0 78 RX0 yX0_nextTune wsX0_nextTune) := goodIn_app (goodIn_of _ (by decide +kernel)) ggX0_turn_X0_nextTune
theorem dX0_turn_0 : decode cX0_turn 0 = .ok (.aload_n 0, 1) := by decide +kernel
theorem dX0_turn_1 : decode cX0_turn 1 = .ok (.invokevirtual 78, 3) := by decide +kernel
theorem dX0_turn_4 : decode cX0_turn 4 = .ok (.istore_n 1, 1) := by decide +kernel
theorem dX0_turn_5 : decode cX0_turn 5 = .ok (.iload_n 1, 1) := by decide +kernel
theorem dX0_turn_6 : decode cX0_turn 6 = .ok (.ifCond .lt 28, 3) := by decide +kernel
theorem dX0_turn_9 : decode cX0_turn 9 = .ok (.iload_n 1, 1) := by decide +kernel
theorem dX0_turn_10 : decode cX0_turn 10 = .ok (.bipush 6, 2) := by decide +kernel
theorem dX0_turn_12 : decode cX0_turn 12 = .ok (.if_icmp .ge 22, 3) := by decide +kernel
theorem dX0_turn_15 : decode cX0_turn 15 = .ok (.aload_n 0, 1) := by decide +kernel
theorem dX0_turn_16 : decode cX0_turn 16 = .ok (.getfield 15, 3) := by decide +kernel
theorem dX0_turn_19 : decode cX0_turn 19 = .ok (.iload_n 1, 1) := by decide +kernel
theorem dX0_turn_20 : decode cX0_turn 20 = .ok (.bipush 90, 2) := by decide +kernel
theorem dX0_turn_22 : decode cX0_turn 22 = .ok (.aload_n 0, 1) := by decide +kernel
theorem dX0_turn_23 : decode cX0_turn 23 = .ok (.getfield 15, 3) := by decide +kernel
theorem dX0_turn_26 : decode cX0_turn 26 = .ok (.iload_n 1, 1) := by decide +kernel
theorem dX0_turn_27 : decode cX0_turn 27 = .ok (.iaload, 1) := by decide +kernel
theorem dX0_turn_28 : decode cX0_turn 28 = .ok (.iconst 1, 1) := by decide +kernel
theorem dX0_turn_29 : decode cX0_turn 29 = .ok (.iadd, 1) := by decide +kernel
theorem dX0_turn_30 : decode cX0_turn 30 = .ok (.invokestatic 55, 3) := by decide +kernel
theorem dX0_turn_33 : decode cX0_turn 33 = .ok (.iastore, 1) := by decide +kernel
theorem dX0_turn_34 : decode cX0_turn 34 = .ok (.aload_n 0, 1) := by decide +kernel
theorem dX0_turn_35 : decode cX0_turn 35 = .ok (.aload_n 0, 1) := by decide +kernel
theorem dX0_turn_36 : decode cX0_turn 36 = .ok (.getfield 52, 3) := by decide +kernel
theorem dX0_turn_39 : decode cX0_turn 39 = .ok (.iconst 1, 1) := by decide +kernel
theorem dX0_turn_40 : decode cX0_turn 40 = .ok (.iadd, 1) := by decide +kernel
theorem dX0_turn_41 : decode cX0_turn 41 = .ok (.aload_n 0, 1) := by decide +kernel
theorem dX0_turn_42 : decode cX0_turn 42 = .ok (.getfield 49, 3) := by decide +kernel
theorem dX0_turn_45 : decode cX0_turn 45 = .ok (.if_icmp .ge 12, 3) := by decide +kernel
theorem dX0_turn_48 : decode cX0_turn 48 = .ok (.aload_n 0, 1) := by decide +kernel
theorem dX0_turn_49 : decode cX0_turn 49 = .ok (.getfield 52, 3) := by decide +kernel
theorem dX0_turn_52 : decode cX0_turn 52 = .ok (.iconst 1, 1) := by decide +kernel
theorem dX0_turn_53 : decode cX0_turn 53 = .ok (.iadd, 1) := by decide +kernel
theorem dX0_turn_54 : decode cX0_turn 54 = .ok (.goto 4, 3) := by decide +kernel
theorem dX0_turn_57 : decode cX0_turn 57 = .ok (.iconst 0, 1) := by decide +kernel
theorem dX0_turn_58 : decode cX0_turn 58 = .ok (.putfield 52, 3) := by decide +kernel
theorem dX0_turn_61 : decode cX0_turn 61 = .ok (.return_, 1) := by decide +kernel
theorem dX0_anHourLess_0 : decode cX0_anHourLess 0 = .ok (.aload_n 0, 1) := by decide +kernel
theorem dX0_anHourLess_1 : decode cX0_anHourLess 1 = .ok (.getfield 37, 3) := by decide +kernel
theorem dX0_anHourLess_4 : decode cX0_anHourLess 4 = .ok (.ifCond .le 13, 3) := by decide +kernel
theorem dX0_anHourLess_7 : decode cX0_anHourLess 7 = .ok (.aload_n 0, 1) := by decide +kernel
theorem dX0_anHourLess_8 : decode cX0_anHourLess 8 = .ok (.dup, 1) := by decide +kernel
theorem dX0_anHourLess_9 : decode cX0_anHourLess 9 = .ok (.getfield 37, 3) := by decide +kernel
theorem dX0_anHourLess_12 : decode cX0_anHourLess 12 = .ok (.iconst 1, 1) := by decide +kernel
theorem dX0_anHourLess_13 : decode cX0_anHourLess 13 = .ok (.isub, 1) := by decide +kernel
theorem dX0_anHourLess_14 : decode cX0_anHourLess 14 = .ok (.putfield 37, 3) := by decide +kernel
theorem dX0_anHourLess_17 : decode cX0_anHourLess 17 = .ok (.iconst 0, 1) := by decide +kernel
theorem dX0_anHourLess_18 : decode cX0_anHourLess 18 = .ok (.istore_n 1, 1) := by decide +kernel
theorem dX0_anHourLess_19 : decode cX0_anHourLess 19 = .ok (.iload_n 1, 1) := by decide +kernel
theorem dX0_anHourLess_20 : decode cX0_anHourLess 20 = .ok (.bipush 6, 2) := by decide +kernel
theorem dX0_anHourLess_22 : decode cX0_anHourLess 22 = .ok (.if_icmp .ge 28, 3) := by decide +kernel
theorem dX0_anHourLess_25 : decode cX0_anHourLess 25 = .ok (.aload_n 0, 1) := by decide +kernel
theorem dX0_anHourLess_26 : decode cX0_anHourLess 26 = .ok (.getfield 21, 3) := by decide +kernel
theorem dX0_anHourLess_29 : decode cX0_anHourLess 29 = .ok (.iload_n 1, 1) := by decide +kernel
theorem dX0_anHourLess_30 : decode cX0_anHourLess 30 = .ok (.iaload, 1) := by decide +kernel
theorem dX0_anHourLess_31 : decode cX0_anHourLess 31 = .ok (.ifCond .le 13, 3) := by decide +kernel
theorem dX0_anHourLess_34 : decode cX0_anHourLess 34 = .ok (.aload_n 0, 1) := by decide +kernel
theorem dX0_anHourLess_35 : decode cX0_anHourLess 35 = .ok (.getfield 21, 3) := by decide +kernel
theorem dX0_anHourLess_38 : decode cX0_anHourLess 38 = .ok (.iload_n 1, 1) := by decide +kernel
theorem dX0_anHourLess_39 : decode cX0_anHourLess 39 = .ok (.dup2, 1) := by decide +kernel
theorem dX0_anHourLess_40 : decode cX0_anHourLess 40 = .ok (.iaload, 1) := by decide +kernel
theorem dX0_anHourLess_41 : decode cX0_anHourLess 41 = .ok (.iconst 1, 1) := by decide +kernel
theorem dX0_anHourLess_42 : decode cX0_anHourLess 42 = .ok (.isub, 1) := by decide +kernel
theorem dX0_anHourLess_43 : decode cX0_anHourLess 43 = .ok (.iastore, 1) := by decide +kernel
theorem dX0_anHourLess_44 : decode cX0_anHourLess 44 = .ok (.iinc 1 1, 3) := by decide +kernel
theorem dX0_anHourLess_47 : decode cX0_anHourLess 47 = .ok (.goto (-28), 3) := by decide +kernel
theorem dX0_anHourLess_50 : decode cX0_anHourLess 50 = .ok (.return_, 1) := by decide +kernel
theorem dX0_complaintsInAll_0 : decode cX0_complaintsInAll 0 = .ok (.iconst 0, 1) := by decide +kernel
theorem dX0_complaintsInAll_1 : decode cX0_complaintsInAll 1 = .ok (.istore_n 1, 1) := by decide +kernel
theorem dX0_complaintsInAll_2 : decode cX0_complaintsInAll 2 = .ok (.iconst 0, 1) := by decide +kernel
theorem dX0_complaintsInAll_3 : decode cX0_complaintsInAll 3 = .ok (.istore_n 2, 1) := by decide +kernel
theorem dX0_complaintsInAll_4 : decode cX0_complaintsInAll 4 = .ok (.iload_n 2, 1) := by decide +kernel
theorem dX0_complaintsInAll_5 : decode cX0_complaintsInAll 5 = .ok (.bipush 6, 2) := by decide +kernel
theorem dX0_complaintsInAll_7 : decode cX0_complaintsInAll 7 = .ok (.if_icmp .ge 18, 3) := by decide +kernel
theorem dX0_complaintsInAll_10 : decode cX0_complaintsInAll 10 = .ok (.iload_n 1, 1) := by decide +kernel
theorem dX0_complaintsInAll_11 : decode cX0_complaintsInAll 11 = .ok (.aload_n 0, 1) := by decide +kernel
theorem dX0_complaintsInAll_12 : decode cX0_complaintsInAll 12 = .ok (.getfield 18, 3) := by decide +kernel
theorem dX0_complaintsInAll_15 : decode cX0_complaintsInAll 15 = .ok (.iload_n 2, 1) := by decide +kernel
theorem dX0_complaintsInAll_16 : decode cX0_complaintsInAll 16 = .ok (.iaload, 1) := by decide +kernel
theorem dX0_complaintsInAll_17 : decode cX0_complaintsInAll 17 = .ok (.iadd, 1) := by decide +kernel
theorem dX0_complaintsInAll_18 : decode cX0_complaintsInAll 18 = .ok (.istore_n 1, 1) := by decide +kernel
theorem dX0_complaintsInAll_19 : decode cX0_complaintsInAll 19 = .ok (.iinc 2 1, 3) := by decide +kernel
theorem dX0_complaintsInAll_22 : decode cX0_complaintsInAll 22 = .ok (.goto (-18), 3) := by decide +kernel
theorem dX0_complaintsInAll_25 : decode cX0_complaintsInAll 25 = .ok (.iload_n 1, 1) := by decide +kernel
theorem dX0_complaintsInAll_26 : decode cX0_complaintsInAll 26 = .ok (.ireturn, 1) := by decide +kernel
theorem dX0_banishedStreets_0 : decode cX0_banishedStreets 0 = .ok (.iconst 0, 1) := by decide +kernel
theorem dX0_banishedStreets_1 : decode cX0_banishedStreets 1 = .ok (.istore_n 1, 1) := by decide +kernel
theorem dX0_banishedStreets_2 : decode cX0_banishedStreets 2 = .ok (.iconst 0, 1) := by decide +kernel
theorem dX0_banishedStreets_3 : decode cX0_banishedStreets 3 = .ok (.istore_n 2, 1) := by decide +kernel
theorem dX0_banishedStreets_4 : decode cX0_banishedStreets 4 = .ok (.iload_n 2, 1) := by decide +kernel
theorem dX0_banishedStreets_5 : decode cX0_banishedStreets 5 = .ok (.bipush 6, 2) := by decide +kernel
theorem dX0_banishedStreets_7 : decode cX0_banishedStreets 7 = .ok (.if_icmp .ge 21, 3) := by decide +kernel
theorem dX0_banishedStreets_10 : decode cX0_banishedStreets 10 = .ok (.aload_n 0, 1) := by decide +kernel
theorem dX0_banishedStreets_11 : decode cX0_banishedStreets 11 = .ok (.getfield 21, 3) := by decide +kernel
theorem dX0_banishedStreets_14 : decode cX0_banishedStreets 14 = .ok (.iload_n 2, 1) := by decide +kernel
theorem dX0_banishedStreets_15 : decode cX0_banishedStreets 15 = .ok (.iaload, 1) := by decide +kernel
theorem dX0_banishedStreets_16 : decode cX0_banishedStreets 16 = .ok (.ifCond .le 6, 3) := by decide +kernel
theorem dX0_banishedStreets_19 : decode cX0_banishedStreets 19 = .ok (.iinc 1 1, 3) := by decide +kernel
theorem dX0_banishedStreets_22 : decode cX0_banishedStreets 22 = .ok (.iinc 2 1, 3) := by decide +kernel
theorem dX0_banishedStreets_25 : decode cX0_banishedStreets 25 = .ok (.goto (-21), 3) := by decide +kernel
theorem dX0_banishedStreets_28 : decode cX0_banishedStreets 28 = .ok (.iload_n 1, 1) := by decide +kernel
theorem dX0_banishedStreets_29 : decode cX0_banishedStreets 29 = .ok (.ireturn, 1) := by decide +kernel
set_option maxRecDepth 20000 in
theorem ggX0_fact_X0_nextTune : GoodIn wsX0_fact wsX0_nextTune := goodIn_r _ [12, 7, 13, 29, 30, 31, 32, 33, 34, 35, 36, 37, 38, 39, 40] (by decide +kernel) (by decide +kernel)
set_option maxRecDepth 20000 in
theorem gX0_fact_X0_nextTune : GoodIn wsX0_fact (wsV RX0 78 RX0 yX0_nextTune wsX0_nextTune) := goodIn_app (goodIn_of _ (by decide +kernel)) ggX0_fact_X0_nextTune
set_option maxRecDepth 20000 in
theorem ggX0_fact_X0_nextWear : GoodIn wsX0_fact wsX0_nextWear := goodIn_r _ [17, 18, 8, 9, 10, 11, 12, 7, 13, 29, 30, 31, 32, 33, 34, 35, 36, 37, 38, 39, 40] (by decide +kernel) (by decide +kernel)
set_option maxRecDepth 20000 in
theorem gX0_fact_X0_nextWear : GoodIn wsX0_fact (wsV RX0 82 RX0 yX0_nextWear wsX0_nextWear) := goodIn_app (goodIn_of _ (by decide +kernel)) ggX0_fact_X0_nextWear
set_option maxRecDepth 20000 in
theorem ggX0_fact_X0_complaintsInAll : GoodIn wsX0_fact wsX0_complaintsInAll := goodIn_r _ [22, 23, 29, 30, 31, 32, 33, 34, 35, 36, 37, 38, 39, 40] (by decide +kernel) (by decide +kernel)
set_option maxRecDepth 20000 in
theorem gX0_fact_X0_complaintsInAll : GoodIn wsX0_fact (wsV RX0 85 RX0 yX0_complaintsInAll wsX0_complaintsInAll) := goodIn_app (goodIn_of _ (by decide +kernel)) ggX0_fact_X0_complaintsInAll
set_option maxRecDepth 20000 in
theorem ggX0_fact_X0_banishedStreets : GoodIn wsX0_fact wsX0_banishedStreets := goodIn_r _ [27, 28, 29, 30, 31, 32, 33, 34, 35, 36, 37, 38, 39, 40] (by decide +kernel) (by decide +kernel)
set_option maxRecDepth 20000 in
theorem gX0_fact_X0_banishedStreets : GoodIn wsX0_fact (wsV RX0 88 RX0 yX0_banishedStreets wsX0_banishedStreets) := goodIn_app (goodIn_of _ (by decide +kernel)) ggX0_fact_X0_banishedStreets
theorem dX0_fact_0 : decode cX0_fact 0 = .ok (.iload_n 1, 1) := by decide +kernel
theorem dX0_fact_1 : decode cX0_fact 1 = .ok (.tableswitch 105 0 9 #[55, 60, 65, 70, 75, 80, 85, 90, 95, 100], 55) := by decide +kernel
theorem dX0_fact_56 : decode cX0_fact 56 = .ok (.aload_n 0, 1) := by decide +kernel
theorem dX0_fact_57 : decode cX0_fact 57 = .ok (.getfield 30, 3) := by decide +kernel
theorem dX0_fact_60 : decode cX0_fact 60 = .ok (.ireturn, 1) := by decide +kernel
theorem dX0_fact_61 : decode cX0_fact 61 = .ok (.aload_n 0, 1) := by decide +kernel
theorem dX0_fact_62 : decode cX0_fact 62 = .ok (.getfield 34, 3) := by decide +kernel
theorem dX0_fact_65 : decode cX0_fact 65 = .ok (.ireturn, 1) := by decide +kernel
theorem dX0_fact_66 : decode cX0_fact 66 = .ok (.aload_n 0, 1) := by decide +kernel
theorem dX0_fact_67 : decode cX0_fact 67 = .ok (.getfield 37, 3) := by decide +kernel
theorem dX0_fact_70 : decode cX0_fact 70 = .ok (.ireturn, 1) := by decide +kernel
theorem dX0_fact_71 : decode cX0_fact 71 = .ok (.aload_n 0, 1) := by decide +kernel
theorem dX0_fact_72 : decode cX0_fact 72 = .ok (.getfield 40, 3) := by decide +kernel
theorem dX0_fact_75 : decode cX0_fact 75 = .ok (.ireturn, 1) := by decide +kernel
theorem dX0_fact_76 : decode cX0_fact 76 = .ok (.aload_n 0, 1) := by decide +kernel
theorem dX0_fact_77 : decode cX0_fact 77 = .ok (.getfield 43, 3) := by decide +kernel
theorem dX0_fact_80 : decode cX0_fact 80 = .ok (.ireturn, 1) := by decide +kernel
theorem dX0_fact_81 : decode cX0_fact 81 = .ok (.aload_n 0, 1) := by decide +kernel
theorem dX0_fact_82 : decode cX0_fact 82 = .ok (.getfield 46, 3) := by decide +kernel
theorem dX0_fact_85 : decode cX0_fact 85 = .ok (.ireturn, 1) := by decide +kernel
theorem dX0_fact_86 : decode cX0_fact 86 = .ok (.aload_n 0, 1) := by decide +kernel
theorem dX0_fact_87 : decode cX0_fact 87 = .ok (.getfield 52, 3) := by decide +kernel
theorem dX0_fact_90 : decode cX0_fact 90 = .ok (.ireturn, 1) := by decide +kernel
theorem dX0_fact_91 : decode cX0_fact 91 = .ok (.aload_n 0, 1) := by decide +kernel
theorem dX0_fact_92 : decode cX0_fact 92 = .ok (.invokevirtual 78, 3) := by decide +kernel
theorem dX0_fact_95 : decode cX0_fact 95 = .ok (.ireturn, 1) := by decide +kernel
theorem dX0_fact_96 : decode cX0_fact 96 = .ok (.aload_n 0, 1) := by decide +kernel
theorem dX0_fact_97 : decode cX0_fact 97 = .ok (.invokevirtual 82, 3) := by decide +kernel
theorem dX0_fact_100 : decode cX0_fact 100 = .ok (.ireturn, 1) := by decide +kernel
theorem dX0_fact_101 : decode cX0_fact 101 = .ok (.aload_n 0, 1) := by decide +kernel
theorem dX0_fact_102 : decode cX0_fact 102 = .ok (.invokevirtual 85, 3) := by decide +kernel
theorem dX0_fact_105 : decode cX0_fact 105 = .ok (.ireturn, 1) := by decide +kernel
theorem dX0_fact_106 : decode cX0_fact 106 = .ok (.aload_n 0, 1) := by decide +kernel
theorem dX0_fact_107 : decode cX0_fact 107 = .ok (.invokevirtual 88, 3) := by decide +kernel
theorem dX0_fact_110 : decode cX0_fact 110 = .ok (.ireturn, 1) := by decide +kernel
theorem dX1_init_0 : decode cX1_init 0 = .ok (.aload_n 0, 1) := by decide +kernel
theorem dX1_init_1 : decode cX1_init 1 = .ok (.invokespecial 3, 3) := by decide +kernel
theorem dX1_init_4 : decode cX1_init 4 = .ok (.aload_n 0, 1) := by decide +kernel
theorem dX1_init_5 : decode cX1_init 5 = .ok (.sipush 320, 3) := by decide +kernel
theorem dX1_init_8 : decode cX1_init 8 = .ok (.newarray .byte, 2) := by decide +kernel
theorem dX1_init_10 : decode cX1_init 10 = .ok (.putfield 9, 3) := by decide +kernel
theorem dX1_init_13 : decode cX1_init 13 = .ok (.return_, 1) := by decide +kernel
theorem dX1_writeByte_0 : decode cX1_writeByte 0 = .ok (.aload_n 0, 1) := by decide +kernel
theorem dX1_writeByte_1 : decode cX1_writeByte 1 = .ok (.getfield 15, 3) := by decide +kernel
theorem dX1_writeByte_4 : decode cX1_writeByte 4 = .ok (.ifCond .lt 34, 3) := by decide +kernel
theorem dX1_writeByte_7 : decode cX1_writeByte 7 = .ok (.aload_n 0, 1) := by decide +kernel
theorem dX1_writeByte_8 : decode cX1_writeByte 8 = .ok (.getfield 15, 3) := by decide +kernel
theorem dX1_writeByte_11 : decode cX1_writeByte 11 = .ok (.sipush 320, 3) := by decide +kernel
theorem dX1_writeByte_14 : decode cX1_writeByte 14 = .ok (.if_icmp .ge 24, 3) := by decide +kernel
theorem dX1_writeByte_17 : decode cX1_writeByte 17 = .ok (.aload_n 0, 1) := by decide +kernel
theorem dX1_writeByte_18 : decode cX1_writeByte 18 = .ok (.getfield 9, 3) := by decide +kernel
theorem dX1_writeByte_21 : decode cX1_writeByte 21 = .ok (.aload_n 0, 1) := by decide +kernel
theorem dX1_writeByte_22 : decode cX1_writeByte 22 = .ok (.getfield 15, 3) := by decide +kernel
theorem dX1_writeByte_25 : decode cX1_writeByte 25 = .ok (.iload_n 1, 1) := by decide +kernel
theorem dX1_writeByte_26 : decode cX1_writeByte 26 = .ok (.i2b, 1) := by decide +kernel
theorem dX1_writeByte_27 : decode cX1_writeByte 27 = .ok (.bastore, 1) := by decide +kernel
theorem dX1_writeByte_28 : decode cX1_writeByte 28 = .ok (.aload_n 0, 1) := by decide +kernel
theorem dX1_writeByte_29 : decode cX1_writeByte 29 = .ok (.dup, 1) := by decide +kernel
theorem dX1_writeByte_30 : decode cX1_writeByte 30 = .ok (.getfield 15, 3) := by decide +kernel
theorem dX1_writeByte_33 : decode cX1_writeByte 33 = .ok (.iconst 1, 1) := by decide +kernel
theorem dX1_writeByte_34 : decode cX1_writeByte 34 = .ok (.iadd, 1) := by decide +kernel
theorem dX1_writeByte_35 : decode cX1_writeByte 35 = .ok (.putfield 15, 3) := by decide +kernel
theorem dX1_writeByte_38 : decode cX1_writeByte 38 = .ok (.return_, 1) := by decide +kernel
set_option maxRecDepth 20000 in
theorem ggX1_writeText_J0_length_8abf5 : GoodIn wsX1_writeText wsJ0_length_8abf5 := goodIn_r _ [5, 6, 7, 8, 9, 4, 10, 11, 12, 57, 58, 59, 60] (by decide +kernel) (by decide +kernel)
set_option maxRecDepth 20000 in
theorem gX1_writeText_J0_length_8abf5 : GoodIn wsX1_writeText (wsV RX1 19 RJ0 yJ0_length_8abf5 wsJ0_length_8abf5) := goodIn_app (goodIn_of _ (by decide +kernel)) ggX1_writeText_J0_length_8abf5
set_option maxRecDepth 20000 in
theorem ggX1_writeText_J0_charAt_5068e : GoodIn wsX1_writeText wsJ0_charAt_5068e := goodIn_r _ [16, 6, 17, 18, 19, 4, 20, 11, 12, 21, 22, 23, 24, 25, 26, 27, 28, 29, 30, 31, 32, 33, 34, 35, 36, 37, 38, 39, 40, 41, 42, 43, 44, 45, 46, 47, 48, 49, 57, 58, 59, 60] (by decide +kernel) (by decide +kernel)
set_option maxRecDepth 20000 in
theorem gX1_writeText_J0_charAt_5068e : GoodIn wsX1_writeText (wsV RX1 24 RJ0 yJ0_charAt_5068e wsJ0_charAt_5068e) := goodIn_app (goodIn_of _ (by decide +kernel)) ggX1_writeText_J0_charAt_5068e
set_option maxRecDepth 20000 in
theorem ggX1_writeText_X1_writeByte : GoodIn wsX1_writeText wsX1_writeByte := goodIn_r _ [54, 55, 56, 61, 62] (by decide +kernel) (by decide +kernel)
set_option maxRecDepth 20000 in
theorem gX1_writeText_X1_writeByte : GoodIn wsX1_writeText (wsV RX1 28 RX1 yX1_writeByte wsX1_writeByte) := goodIn_app (goodIn_of _ (by decide +kernel)) ggX1_writeText_X1_writeByte
theorem dX1_writeText_0 : decode cX1_writeText 0 = .ok (.iconst 0, 1) := by decide +kernel
theorem dX1_writeText_1 : decode cX1_writeText 1 = .ok (.istore_n 2, 1) := by decide +kernel
theorem dX1_writeText_2 : decode cX1_writeText 2 = .ok (.iload_n 2, 1) := by decide +kernel
theorem dX1_writeText_3 : decode cX1_writeText 3 = .ok (.aload_n 1, 1) := by decide +kernel
theorem dX1_writeText_4 : decode cX1_writeText 4 = .ok (.invokevirtual 19, 3) := by decide +kernel
theorem dX1_writeText_7 : decode cX1_writeText 7 = .ok (.if_icmp .ge 18, 3) := by decide +kernel
theorem dX1_writeText_10 : decode cX1_writeText 10 = .ok (.aload_n 0, 1) := by decide +kernel
theorem dX1_writeText_11 : decode cX1_writeText 11 = .ok (.aload_n 1, 1) := by decide +kernel
theorem dX1_writeText_12 : decode cX1_writeText 12 = .ok (.iload_n 2, 1) := by decide +kernel
theorem dX1_writeText_13 : decode cX1_writeText 13 = .ok (.invokevirtual 24, 3) := by decide +kernel
theorem dX1_writeText_16 : decode cX1_writeText 16 = .ok (.invokevirtual 28, 3) := by decide +kernel
theorem dX1_writeText_19 : decode cX1_writeText 19 = .ok (.iinc 2 1, 3) := by decide +kernel
theorem dX1_writeText_22 : decode cX1_writeText 22 = .ok (.goto (-20), 3) := by decide +kernel
theorem dX1_writeText_25 : decode cX1_writeText 25 = .ok (.return_, 1) := by decide +kernel
set_option maxRecDepth 20000 in
theorem ggX1_writeLine_X1_writeNumber : GoodIn wsX1_writeLine wsX1_writeNumber := goodIn_r _ [5, 6, 7, 8, 9, 10, 4, 11, 12, 13, 14, 15] (by decide +kernel) (by decide +kernel)
set_option maxRecDepth 20000 in
theorem gX1_writeLine_X1_writeNumber : GoodIn wsX1_writeLine (wsV RX1 32 RX1 yX1_writeNumber wsX1_writeNumber) := goodIn_app (goodIn_of _ (by decide +kernel)) ggX1_writeLine_X1_writeNumber
set_option maxRecDepth 20000 in
theorem ggX1_writeLine_X1_writeByte : GoodIn wsX1_writeLine wsX1_writeByte := goodIn_r _ [11, 12, 13, 14, 15] (by decide +kernel) (by decide +kernel)
set_option maxRecDepth 20000 in
theorem gX1_writeLine_X1_writeByte : GoodIn wsX1_writeLine (wsV RX1 28 RX1 yX1_writeByte wsX1_writeByte) := goodIn_app (goodIn_of _ (by decide +kernel)) ggX1_writeLine_X1_writeByte
theorem dX1_writeLine_0 : decode cX1_writeLine 0 = .ok (.aload_n 0, 1) := by decide +kernel
theorem dX1_writeLine_1 : decode cX1_writeLine 1 = .ok (.iload_n 1, 1) := by decide +kernel
theorem dX1_writeLine_2 : decode cX1_writeLine 2 = .ok (.invokevirtual 32, 3) := by decide +kernel
theorem dX1_writeLine_5 : decode cX1_writeLine 5 = .ok (.aload_n 0, 1) := by decide +kernel
theorem dX1_writeLine_6 : decode cX1_writeLine 6 = .ok (.bipush 32, 2) := by decide +kernel
theorem dX1_writeLine_8 : decode cX1_writeLine 8 = .ok (.invokevirtual 28, 3) := by decide +kernel
theorem dX1_writeLine_11 : decode cX1_writeLine 11 = .ok (.aload_n 0, 1) := by decide +kernel
theorem dX1_writeLine_12 : decode cX1_writeLine 12 = .ok (.iload_n 2, 1) := by decide +kernel
theorem dX1_writeLine_13 : decode cX1_writeLine 13 = .ok (.invokevirtual 32, 3) := by decide +kernel
theorem dX1_writeLine_16 : decode cX1_writeLine 16 = .ok (.aload_n 0, 1) := by decide +kernel
theorem dX1_writeLine_17 : decode cX1_writeLine 17 = .ok (.bipush 32, 2) := by decide +kernel
theorem dX1_writeLine_19 : decode cX1_writeLine 19 = .ok (.invokevirtual 28, 3) := by decide +kernel
theorem dX1_writeLine_22 : decode cX1_writeLine 22 = .ok (.aload_n 0, 1) := by decide +kernel
theorem dX1_writeLine_23 : decode cX1_writeLine 23 = .ok (.iload_n 3, 1) := by decide +kernel
theorem dX1_writeLine_24 : decode cX1_writeLine 24 = .ok (.invokevirtual 32, 3) := by decide +kernel
theorem dX1_writeLine_27 : decode cX1_writeLine 27 = .ok (.aload_n 0, 1) := by decide +kernel
theorem dX1_writeLine_28 : decode cX1_writeLine 28 = .ok (.bipush 10, 2) := by decide +kernel
theorem dX1_writeLine_30 : decode cX1_writeLine 30 = .ok (.invokevirtual 28, 3) := by decide +kernel
theorem dX1_writeLine_33 : decode cX1_writeLine 33 = .ok (.return_, 1) := by decide +kernel
set_option maxRecDepth 20000 in
theorem ggX1_writeNumber_X1_writeByte : GoodIn wsX1_writeNumber wsX1_writeByte := goodIn_r _ [7, 8, 9, 10, 11] (by decide +kernel) (by decide +kernel)
set_option maxRecDepth 20000 in
theorem gX1_writeNumber_X1_writeByte : GoodIn wsX1_writeNumber (wsV RX1 28 RX1 yX1_writeByte wsX1_writeByte) := goodIn_app (goodIn_of _ (by decide +kernel)) ggX1_writeNumber_X1_writeByte
theorem dX1_writeNumber_0 : decode cX1_writeNumber 0 = .ok (.lconst 1, 1) := by decide +kernel
theorem dX1_writeNumber_1 : decode cX1_writeNumber 1 = .ok (.lstore_n 2, 1) := by decide +kernel
theorem dX1_writeNumber_2 : decode cX1_writeNumber 2 = .ok (.iload_n 1, 1) := by decide +kernel
theorem dX1_writeNumber_3 : decode cX1_writeNumber 3 = .ok (.bipush 10, 2) := by decide +kernel
theorem dX1_writeNumber_5 : decode cX1_writeNumber 5 = .ok (.idiv, 1) := by decide +kernel
theorem dX1_writeNumber_6 : decode cX1_writeNumber 6 = .ok (.istore 4, 2) := by decide +kernel
theorem dX1_writeNumber_8 : decode cX1_writeNumber 8 = .ok (.iload 4, 2) := by decide +kernel
theorem dX1_writeNumber_10 : decode cX1_writeNumber 10 = .ok (.ifCond .le 19, 3) := by decide +kernel
theorem dX1_writeNumber_13 : decode cX1_writeNumber 13 = .ok (.lload_n 2, 1) := by decide +kernel
theorem dX1_writeNumber_14 : decode cX1_writeNumber 14 = .ok (.ldc2_w 35, 3) := by decide +kernel
theorem dX1_writeNumber_17 : decode cX1_writeNumber 17 = .ok (.lmul, 1) := by decide +kernel
theorem dX1_writeNumber_18 : decode cX1_writeNumber 18 = .ok (.lstore_n 2, 1) := by decide +kernel
theorem dX1_writeNumber_19 : decode cX1_writeNumber 19 = .ok (.iload 4, 2) := by decide +kernel
theorem dX1_writeNumber_21 : decode cX1_writeNumber 21 = .ok (.bipush 10, 2) := by decide +kernel
theorem dX1_writeNumber_23 : decode cX1_writeNumber 23 = .ok (.idiv, 1) := by decide +kernel
theorem dX1_writeNumber_24 : decode cX1_writeNumber 24 = .ok (.istore 4, 2) := by decide +kernel
theorem dX1_writeNumber_26 : decode cX1_writeNumber 26 = .ok (.goto (-18), 3) := by decide +kernel
theorem dX1_writeNumber_29 : decode cX1_writeNumber 29 = .ok (.lload_n 2, 1) := by decide +kernel
theorem dX1_writeNumber_30 : decode cX1_writeNumber 30 = .ok (.lconst 0, 1) := by decide +kernel
theorem dX1_writeNumber_31 : decode cX1_writeNumber 31 = .ok (.lcmp, 1) := by decide +kernel
theorem dX1_writeNumber_32 : decode cX1_writeNumber 32 = .ok (.ifCond .le 29, 3) := by decide +kernel
theorem dX1_writeNumber_35 : decode cX1_writeNumber 35 = .ok (.aload_n 0, 1) := by decide +kernel
theorem dX1_writeNumber_36 : decode cX1_writeNumber 36 = .ok (.ldc2_w 37, 3) := by decide +kernel
theorem dX1_writeNumber_39 : decode cX1_writeNumber 39 = .ok (.iload_n 1, 1) := by decide +kernel
theorem dX1_writeNumber_40 : decode cX1_writeNumber 40 = .ok (.i2l, 1) := by decide +kernel
theorem dX1_writeNumber_41 : decode cX1_writeNumber 41 = .ok (.lload_n 2, 1) := by decide +kernel
theorem dX1_writeNumber_42 : decode cX1_writeNumber 42 = .ok (.ldiv, 1) := by decide +kernel
theorem dX1_writeNumber_43 : decode cX1_writeNumber 43 = .ok (.ldc2_w 35, 3) := by decide +kernel
theorem dX1_writeNumber_46 : decode cX1_writeNumber 46 = .ok (.lrem, 1) := by decide +kernel
theorem dX1_writeNumber_47 : decode cX1_writeNumber 47 = .ok (.ladd, 1) := by decide +kernel
theorem dX1_writeNumber_48 : decode cX1_writeNumber 48 = .ok (.l2i, 1) := by decide +kernel
theorem dX1_writeNumber_49 : decode cX1_writeNumber 49 = .ok (.invokevirtual 28, 3) := by decide +kernel
theorem dX1_writeNumber_52 : decode cX1_writeNumber 52 = .ok (.lload_n 2, 1) := by decide +kernel
theorem dX1_writeNumber_53 : decode cX1_writeNumber 53 = .ok (.ldc2_w 35, 3) := by decide +kernel
theorem dX1_writeNumber_56 : decode cX1_writeNumber 56 = .ok (.ldiv, 1) := by decide +kernel
theorem dX1_writeNumber_57 : decode cX1_writeNumber 57 = .ok (.lstore_n 2, 1) := by decide +kernel
theorem dX1_writeNumber_58 : decode cX1_writeNumber 58 = .ok (.goto (-29), 3) := by decide +kernel
theorem dX1_writeNumber_61 : decode cX1_writeNumber 61 = .ok (.return_, 1) := by decide +kernel
set_option maxRecDepth 20000 in
theorem ggX2_init_J7_fill_53178 : GoodIn wsX2_init wsJ7_fill_53178 := goodIn_r _ [11] (by decide +kernel) (by decide +kernel)
set_option maxRecDepth 20000 in
theorem gX2_init_J7_fill_53178 : GoodIn wsX2_init (va_wsS RX2 21 yJ7_fill_53178 wsJ7_fill_53178) := goodIn_app (goodIn_of _ (by decide +kernel)) ggX2_init_J7_fill_53178
theorem dX2_init_0 : decode cX2_init 0 = .ok (.aload_n 0, 1) := by decide +kernel
theorem dX2_init_1 : decode cX2_init 1 = .ok (.invokespecial 3, 3) := by decide +kernel
theorem dX2_init_4 : decode cX2_init 4 = .ok (.aload_n 0, 1) := by decide +kernel
theorem dX2_init_5 : decode cX2_init 5 = .ok (.bipush 24, 2) := by decide +kernel
theorem dX2_init_7 : decode cX2_init 7 = .ok (.newarray .int, 2) := by decide +kernel
theorem dX2_init_9 : decode cX2_init 9 = .ok (.putfield 9, 3) := by decide +kernel
theorem dX2_init_12 : decode cX2_init 12 = .ok (.aload_n 0, 1) := by decide +kernel
theorem dX2_init_13 : decode cX2_init 13 = .ok (.bipush 6, 2) := by decide +kernel
theorem dX2_init_15 : decode cX2_init 15 = .ok (.newarray .int, 2) := by decide +kernel
theorem dX2_init_17 : decode cX2_init 17 = .ok (.putfield 15, 3) := by decide +kernel
theorem dX2_init_20 : decode cX2_init 20 = .ok (.aload_n 0, 1) := by decide +kernel
theorem dX2_init_21 : decode cX2_init 21 = .ok (.bipush 6, 2) := by decide +kernel
theorem dX2_init_23 : decode cX2_init 23 = .ok (.newarray .int, 2) := by decide +kernel
theorem dX2_init_25 : decode cX2_init 25 = .ok (.putfield 18, 3) := by decide +kernel
theorem dX2_init_28 : decode cX2_init 28 = .ok (.aload_n 0, 1) := by decide +kernel
theorem dX2_init_29 : decode cX2_init 29 = .ok (.getfield 15, 3) := by decide +kernel
theorem dX2_init_32 : decode cX2_init 32 = .ok (.iconst 5, 1) := by decide +kernel
theorem dX2_init_33 : decode cX2_init 33 = .ok (.invokestatic 21, 3) := by decide +kernel
theorem dX2_init_36 : decode cX2_init 36 = .ok (.return_, 1) := by decide +kernel
theorem dX2_copyFrom_0 : decode cX2_copyFrom 0 = .ok (.aload_n 1, 1) := by decide +kernel
theorem dX2_copyFrom_1 : decode cX2_copyFrom 1 = .ok (.getfield 9, 3) := by decide +kernel
theorem dX2_copyFrom_4 : decode cX2_copyFrom 4 = .ok (.iconst 0, 1) := by decide +kernel
theorem dX2_copyFrom_5 : decode cX2_copyFrom 5 = .ok (.aload_n 0, 1) := by decide +kernel
theorem dX2_copyFrom_6 : decode cX2_copyFrom 6 = .ok (.getfield 9, 3) := by decide +kernel
theorem dX2_copyFrom_9 : decode cX2_copyFrom 9 = .ok (.iconst 0, 1) := by decide +kernel
theorem dX2_copyFrom_10 : decode cX2_copyFrom 10 = .ok (.bipush 24, 2) := by decide +kernel
theorem dX2_copyFrom_12 : decode cX2_copyFrom 12 = .ok (.invokestatic 27, 3) := by decide +kernel
theorem dX2_copyFrom_15 : decode cX2_copyFrom 15 = .ok (.aload_n 1, 1) := by decide +kernel
theorem dX2_copyFrom_16 : decode cX2_copyFrom 16 = .ok (.getfield 15, 3) := by decide +kernel
theorem dX2_copyFrom_19 : decode cX2_copyFrom 19 = .ok (.iconst 0, 1) := by decide +kernel
theorem dX2_copyFrom_20 : decode cX2_copyFrom 20 = .ok (.aload_n 0, 1) := by decide +kernel
theorem dX2_copyFrom_21 : decode cX2_copyFrom 21 = .ok (.getfield 15, 3) := by decide +kernel
theorem dX2_copyFrom_24 : decode cX2_copyFrom 24 = .ok (.iconst 0, 1) := by decide +kernel
theorem dX2_copyFrom_25 : decode cX2_copyFrom 25 = .ok (.bipush 6, 2) := by decide +kernel
theorem dX2_copyFrom_27 : decode cX2_copyFrom 27 = .ok (.invokestatic 27, 3) := by decide +kernel
theorem dX2_copyFrom_30 : decode cX2_copyFrom 30 = .ok (.aload_n 1, 1) := by decide +kernel
theorem dX2_copyFrom_31 : decode cX2_copyFrom 31 = .ok (.getfield 18, 3) := by decide +kernel
theorem dX2_copyFrom_34 : decode cX2_copyFrom 34 = .ok (.iconst 0, 1) := by decide +kernel
theorem dX2_copyFrom_35 : decode cX2_copyFrom 35 = .ok (.aload_n 0, 1) := by decide +kernel
theorem dX2_copyFrom_36 : decode cX2_copyFrom 36 = .ok (.getfield 18, 3) := by decide +kernel
theorem dX2_copyFrom_39 : decode cX2_copyFrom 39 = .ok (.iconst 0, 1) := by decide +kernel
theorem dX2_copyFrom_40 : decode cX2_copyFrom 40 = .ok (.bipush 6, 2) := by decide +kernel
theorem dX2_copyFrom_42 : decode cX2_copyFrom 42 = .ok (.invokestatic 27, 3) := by decide +kernel
theorem dX2_copyFrom_45 : decode cX2_copyFrom 45 = .ok (.aload_n 0, 1) := by decide +kernel
theorem dX2_copyFrom_46 : decode cX2_copyFrom 46 = .ok (.aload_n 1, 1) := by decide +kernel
theorem dX2_copyFrom_47 : decode cX2_copyFrom 47 = .ok (.getfield 33, 3) := by decide +kernel
theorem dX2_copyFrom_50 : decode cX2_copyFrom 50 = .ok (.putfield 33, 3) := by decide +kernel
theorem dX2_copyFrom_53 : decode cX2_copyFrom 53 = .ok (.aload_n 0, 1) := by decide +kernel
theorem dX2_copyFrom_54 : decode cX2_copyFrom 54 = .ok (.aload_n 1, 1) := by decide +kernel
theorem dX2_copyFrom_55 : decode cX2_copyFrom 55 = .ok (.getfield 37, 3) := by decide +kernel
theorem dX2_copyFrom_58 : decode cX2_copyFrom 58 = .ok (.putfield 37, 3) := by decide +kernel
theorem dX2_copyFrom_61 : decode cX2_copyFrom 61 = .ok (.aload_n 0, 1) := by decide +kernel
theorem dX2_copyFrom_62 : decode cX2_copyFrom 62 = .ok (.aload_n 1, 1) := by decide +kernel
theorem dX2_copyFrom_63 : decode cX2_copyFrom 63 = .ok (.getfield 40, 3) := by decide +kernel
theorem dX2_copyFrom_66 : decode cX2_copyFrom 66 = .ok (.putfield 40, 3) := by decide +kernel
theorem dX2_copyFrom_69 : decode cX2_copyFrom 69 = .ok (.return_, 1) := by decide +kernel
theorem dX2_tire_0 : decode cX2_tire 0 = .ok (.iload_n 2, 1) := by decide +kernel
theorem dX2_tire_1 : decode cX2_tire 1 = .ok (.ifCond .eq 25, 3) := by decide +kernel
theorem dX2_tire_4 : decode cX2_tire 4 = .ok (.aload_n 0, 1) := by decide +kernel
theorem dX2_tire_5 : decode cX2_tire 5 = .ok (.getfield 18, 3) := by decide +kernel
theorem dX2_tire_8 : decode cX2_tire 8 = .ok (.iload_n 1, 1) := by decide +kernel
theorem dX2_tire_9 : decode cX2_tire 9 = .ok (.bipush 9, 2) := by decide +kernel
theorem dX2_tire_11 : decode cX2_tire 11 = .ok (.aload_n 0, 1) := by decide +kernel
theorem dX2_tire_12 : decode cX2_tire 12 = .ok (.getfield 18, 3) := by decide +kernel
theorem dX2_tire_15 : decode cX2_tire 15 = .ok (.iload_n 1, 1) := by decide +kernel
theorem dX2_tire_16 : decode cX2_tire 16 = .ok (.iaload, 1) := by decide +kernel
theorem dX2_tire_17 : decode cX2_tire 17 = .ok (.iconst 2, 1) := by decide +kernel
theorem dX2_tire_18 : decode cX2_tire 18 = .ok (.iadd, 1) := by decide +kernel
theorem dX2_tire_19 : decode cX2_tire 19 = .ok (.invokestatic 43, 3) := by decide +kernel
theorem dX2_tire_22 : decode cX2_tire 22 = .ok (.iastore, 1) := by decide +kernel
theorem dX2_tire_23 : decode cX2_tire 23 = .ok (.goto 21, 3) := by decide +kernel
theorem dX2_tire_26 : decode cX2_tire 26 = .ok (.aload_n 0, 1) := by decide +kernel
theorem dX2_tire_27 : decode cX2_tire 27 = .ok (.getfield 18, 3) := by decide +kernel
theorem dX2_tire_30 : decode cX2_tire 30 = .ok (.iload_n 1, 1) := by decide +kernel
theorem dX2_tire_31 : decode cX2_tire 31 = .ok (.iconst 0, 1) := by decide +kernel
theorem dX2_tire_32 : decode cX2_tire 32 = .ok (.aload_n 0, 1) := by decide +kernel
theorem dX2_tire_33 : decode cX2_tire 33 = .ok (.getfield 18, 3) := by decide +kernel
theorem dX2_tire_36 : decode cX2_tire 36 = .ok (.iload_n 1, 1) := by decide +kernel
theorem dX2_tire_37 : decode cX2_tire 37 = .ok (.iaload, 1) := by decide +kernel
theorem dX2_tire_38 : decode cX2_tire 38 = .ok (.iconst 1, 1) := by decide +kernel
theorem dX2_tire_39 : decode cX2_tire 39 = .ok (.isub, 1) := by decide +kernel
theorem dX2_tire_40 : decode cX2_tire 40 = .ok (.invokestatic 49, 3) := by decide +kernel
theorem dX2_tire_43 : decode cX2_tire 43 = .ok (.iastore, 1) := by decide +kernel
theorem dX2_tire_44 : decode cX2_tire 44 = .ok (.return_, 1) := by decide +kernel
set_option maxRecDepth 20000 in
theorem ggX3_init_X2_init : GoodIn wsX3_init wsX2_init := goodIn_r _ [14, 15, 2, 3, 16, 17, 18, 19, 20, 21, 22, 23, 36, 37, 38, 39, 40, 41] (by decide +kernel) (by decide +kernel)
set_option maxRecDepth 20000 in
theorem gX3_init_X2_init : GoodIn wsX3_init (wsX2_init) := ggX3_init_X2_init
set_option maxRecDepth 20000 in
theorem ggX3_init_X0_init : GoodIn wsX3_init wsX0_init := goodIn_r _ [25, 26, 2, 3, 16, 27, 28, 29, 30, 42, 43, 44, 45, 46, 47, 48, 49, 50, 51, 52, 53] (by decide +kernel) (by decide +kernel)
set_option maxRecDepth 20000 in
theorem gX3_init_X0_init_n24 : GoodIn wsX3_init (wsX0_init) := ggX3_init_X0_init
theorem dX3_init_0 : decode cX3_init 0 = .ok (.aload_n 0, 1) := by decide +kernel
theorem dX3_init_1 : decode cX3_init 1 = .ok (.invokespecial 3, 3) := by decide +kernel
theorem dX3_init_4 : decode cX3_init 4 = .ok (.aload_n 0, 1) := by decide +kernel
theorem dX3_init_5 : decode cX3_init 5 = .ok (.bipush 6, 2) := by decide +kernel
theorem dX3_init_7 : decode cX3_init 7 = .ok (.anewarray 9, 3) := by decide +kernel
theorem dX3_init_10 : decode cX3_init 10 = .ok (.putfield 11, 3) := by decide +kernel
theorem dX3_init_13 : decode cX3_init 13 = .ok (.aload_n 0, 1) := by decide +kernel
theorem dX3_init_14 : decode cX3_init 14 = .ok (.bipush 8, 2) := by decide +kernel
theorem dX3_init_16 : decode cX3_init 16 = .ok (.anewarray 17, 3) := by decide +kernel
theorem dX3_init_19 : decode cX3_init 19 = .ok (.putfield 19, 3) := by decide +kernel
theorem dX3_init_22 : decode cX3_init 22 = .ok (.iconst 0, 1) := by decide +kernel
theorem dX3_init_23 : decode cX3_init 23 = .ok (.istore_n 1, 1) := by decide +kernel
theorem dX3_init_24 : decode cX3_init 24 = .ok (.iload_n 1, 1) := by decide +kernel
theorem dX3_init_25 : decode cX3_init 25 = .ok (.bipush 6, 2) := by decide +kernel
theorem dX3_init_27 : decode cX3_init 27 = .ok (.if_icmp .ge 22, 3) := by decide +kernel
theorem dX3_init_30 : decode cX3_init 30 = .ok (.aload_n 0, 1) := by decide +kernel
theorem dX3_init_31 : decode cX3_init 31 = .ok (.getfield 11, 3) := by decide +kernel
theorem dX3_init_34 : decode cX3_init 34 = .ok (.iload_n 1, 1) := by decide +kernel
theorem dX3_init_35 : decode cX3_init 35 = .ok (.new 9, 3) := by decide +kernel
theorem dX3_init_38 : decode cX3_init 38 = .ok (.dup, 1) := by decide +kernel
theorem dX3_init_39 : decode cX3_init 39 = .ok (.invokespecial 23, 3) := by decide +kernel
theorem dX3_init_42 : decode cX3_init 42 = .ok (.aastore, 1) := by decide +kernel
theorem dX3_init_43 : decode cX3_init 43 = .ok (.iinc 1 1, 3) := by decide +kernel
theorem dX3_init_46 : decode cX3_init 46 = .ok (.goto (-22), 3) := by decide +kernel
theorem dX3_init_49 : decode cX3_init 49 = .ok (.iconst 0, 1) := by decide +kernel
theorem dX3_init_50 : decode cX3_init 50 = .ok (.istore_n 1, 1) := by decide +kernel
theorem dX3_init_51 : decode cX3_init 51 = .ok (.iload_n 1, 1) := by decide +kernel
theorem dX3_init_52 : decode cX3_init 52 = .ok (.bipush 8, 2) := by decide +kernel
theorem dX3_init_54 : decode cX3_init 54 = .ok (.if_icmp .ge 22, 3) := by decide +kernel
theorem dX3_init_57 : decode cX3_init 57 = .ok (.aload_n 0, 1) := by decide +kernel
theorem dX3_init_58 : decode cX3_init 58 = .ok (.getfield 19, 3) := by decide +kernel
theorem dX3_init_61 : decode cX3_init 61 = .ok (.iload_n 1, 1) := by decide +kernel
theorem dX3_init_62 : decode cX3_init 62 = .ok (.new 17, 3) := by decide +kernel
theorem dX3_init_65 : decode cX3_init 65 = .ok (.dup, 1) := by decide +kernel
theorem dX3_init_66 : decode cX3_init 66 = .ok (.invokespecial 24, 3) := by decide +kernel
theorem dX3_init_69 : decode cX3_init 69 = .ok (.aastore, 1) := by decide +kernel
theorem dX3_init_70 : decode cX3_init 70 = .ok (.iinc 1 1, 3) := by decide +kernel
theorem dX3_init_73 : decode cX3_init 73 = .ok (.goto (-22), 3) := by decide +kernel
theorem dX3_init_76 : decode cX3_init 76 = .ok (.return_, 1) := by decide +kernel
set_option maxRecDepth 20000 in
theorem ggX3_copyFrom_X2_copyFrom : GoodIn wsX3_copyFrom wsX2_copyFrom := goodIn_r _ [10, 11, 12, 13, 14, 15, 16, 17, 18, 19, 20, 44, 45, 46, 47, 48, 49] (by decide +kernel) (by decide +kernel)
set_option maxRecDepth 20000 in
theorem gX3_copyFrom_X2_copyFrom : GoodIn wsX3_copyFrom (wsV RX3 35 RX2 yX2_copyFrom wsX2_copyFrom) := goodIn_app (goodIn_of _ (by decide +kernel)) ggX3_copyFrom_X2_copyFrom
set_option maxRecDepth 20000 in
theorem ggX3_copyFrom_X0_copyFrom : GoodIn wsX3_copyFrom wsX0_copyFrom := goodIn_r _ [25, 26, 27, 13, 14, 15, 28, 29, 30, 31, 32, 33, 34, 35, 36, 37, 38, 50, 51, 52, 53, 54, 55, 56, 57, 58, 59, 60, 61] (by decide +kernel) (by decide +kernel)
set_option maxRecDepth 20000 in
theorem gX3_copyFrom_X0_copyFrom : GoodIn wsX3_copyFrom (wsV RX3 39 RX0 yX0_copyFrom wsX0_copyFrom) := goodIn_app (goodIn_of _ (by decide +kernel)) ggX3_copyFrom_X0_copyFrom
theorem dX3_copyFrom_0 : decode cX3_copyFrom 0 = .ok (.aload_n 0, 1) := by decide +kernel
theorem dX3_copyFrom_1 : decode cX3_copyFrom 1 = .ok (.aload_n 1, 1) := by decide +kernel
theorem dX3_copyFrom_2 : decode cX3_copyFrom 2 = .ok (.getfield 25, 3) := by decide +kernel
theorem dX3_copyFrom_5 : decode cX3_copyFrom 5 = .ok (.putfield 25, 3) := by decide +kernel
theorem dX3_copyFrom_8 : decode cX3_copyFrom 8 = .ok (.aload_n 0, 1) := by decide +kernel
theorem dX3_copyFrom_9 : decode cX3_copyFrom 9 = .ok (.aload_n 1, 1) := by decide +kernel
theorem dX3_copyFrom_10 : decode cX3_copyFrom 10 = .ok (.getfield 29, 3) := by decide +kernel
theorem dX3_copyFrom_13 : decode cX3_copyFrom 13 = .ok (.putfield 29, 3) := by decide +kernel
theorem dX3_copyFrom_16 : decode cX3_copyFrom 16 = .ok (.aload_n 0, 1) := by decide +kernel
theorem dX3_copyFrom_17 : decode cX3_copyFrom 17 = .ok (.aload_n 1, 1) := by decide +kernel
theorem dX3_copyFrom_18 : decode cX3_copyFrom 18 = .ok (.getfield 32, 3) := by decide +kernel
theorem dX3_copyFrom_21 : decode cX3_copyFrom 21 = .ok (.putfield 32, 3) := by decide +kernel
theorem dX3_copyFrom_24 : decode cX3_copyFrom 24 = .ok (.iconst 0, 1) := by decide +kernel
theorem dX3_copyFrom_25 : decode cX3_copyFrom 25 = .ok (.istore_n 2, 1) := by decide +kernel
theorem dX3_copyFrom_26 : decode cX3_copyFrom 26 = .ok (.iload_n 2, 1) := by decide +kernel
theorem dX3_copyFrom_27 : decode cX3_copyFrom 27 = .ok (.aload_n 0, 1) := by decide +kernel
theorem dX3_copyFrom_28 : decode cX3_copyFrom 28 = .ok (.getfield 25, 3) := by decide +kernel
theorem dX3_copyFrom_31 : decode cX3_copyFrom 31 = .ok (.if_icmp .ge 24, 3) := by decide +kernel
theorem dX3_copyFrom_34 : decode cX3_copyFrom 34 = .ok (.aload_n 0, 1) := by decide +kernel
theorem dX3_copyFrom_35 : decode cX3_copyFrom 35 = .ok (.getfield 11, 3) := by decide +kernel
theorem dX3_copyFrom_38 : decode cX3_copyFrom 38 = .ok (.iload_n 2, 1) := by decide +kernel
theorem dX3_copyFrom_39 : decode cX3_copyFrom 39 = .ok (.aaload, 1) := by decide +kernel
theorem dX3_copyFrom_40 : decode cX3_copyFrom 40 = .ok (.aload_n 1, 1) := by decide +kernel
theorem dX3_copyFrom_41 : decode cX3_copyFrom 41 = .ok (.getfield 11, 3) := by decide +kernel
theorem dX3_copyFrom_44 : decode cX3_copyFrom 44 = .ok (.iload_n 2, 1) := by decide +kernel
theorem dX3_copyFrom_45 : decode cX3_copyFrom 45 = .ok (.aaload, 1) := by decide +kernel
theorem dX3_copyFrom_46 : decode cX3_copyFrom 46 = .ok (.invokevirtual 35, 3) := by decide +kernel
theorem dX3_copyFrom_49 : decode cX3_copyFrom 49 = .ok (.iinc 2 1, 3) := by decide +kernel
theorem dX3_copyFrom_52 : decode cX3_copyFrom 52 = .ok (.goto (-26), 3) := by decide +kernel
theorem dX3_copyFrom_55 : decode cX3_copyFrom 55 = .ok (.iconst 0, 1) := by decide +kernel
theorem dX3_copyFrom_56 : decode cX3_copyFrom 56 = .ok (.istore_n 2, 1) := by decide +kernel
theorem dX3_copyFrom_57 : decode cX3_copyFrom 57 = .ok (.iload_n 2, 1) := by decide +kernel
theorem dX3_copyFrom_58 : decode cX3_copyFrom 58 = .ok (.aload_n 0, 1) := by decide +kernel
theorem dX3_copyFrom_59 : decode cX3_copyFrom 59 = .ok (.getfield 29, 3) := by decide +kernel
theorem dX3_copyFrom_62 : decode cX3_copyFrom 62 = .ok (.if_icmp .ge 24, 3) := by decide +kernel
theorem dX3_copyFrom_65 : decode cX3_copyFrom 65 = .ok (.aload_n 0, 1) := by decide +kernel
theorem dX3_copyFrom_66 : decode cX3_copyFrom 66 = .ok (.getfield 19, 3) := by decide +kernel
theorem dX3_copyFrom_69 : decode cX3_copyFrom 69 = .ok (.iload_n 2, 1) := by decide +kernel
theorem dX3_copyFrom_70 : decode cX3_copyFrom 70 = .ok (.aaload, 1) := by decide +kernel
theorem dX3_copyFrom_71 : decode cX3_copyFrom 71 = .ok (.aload_n 1, 1) := by decide +kernel
theorem dX3_copyFrom_72 : decode cX3_copyFrom 72 = .ok (.getfield 19, 3) := by decide +kernel
theorem dX3_copyFrom_75 : decode cX3_copyFrom 75 = .ok (.iload_n 2, 1) := by decide +kernel
theorem dX3_copyFrom_76 : decode cX3_copyFrom 76 = .ok (.aaload, 1) := by decide +kernel
theorem dX3_copyFrom_77 : decode cX3_copyFrom 77 = .ok (.invokevirtual 39, 3) := by decide +kernel
theorem dX3_copyFrom_80 : decode cX3_copyFrom 80 = .ok (.iinc 2 1, 3) := by decide +kernel
theorem dX3_copyFrom_83 : decode cX3_copyFrom 83 = .ok (.goto (-26), 3) := by decide +kernel
theorem dX3_copyFrom_86 : decode cX3_copyFrom 86 = .ok (.return_, 1) := by decide +kernel
theorem dX3_newStreet_0 : decode cX3_newStreet 0 = .ok (.aload_n 0, 1) := by decide +kernel
theorem dX3_newStreet_1 : decode cX3_newStreet 1 = .ok (.getfield 11, 3) := by decide +kernel
theorem dX3_newStreet_4 : decode cX3_newStreet 4 = .ok (.aload_n 0, 1) := by decide +kernel
theorem dX3_newStreet_5 : decode cX3_newStreet 5 = .ok (.getfield 25, 3) := by decide +kernel
theorem dX3_newStreet_8 : decode cX3_newStreet 8 = .ok (.aaload, 1) := by decide +kernel
theorem dX3_newStreet_9 : decode cX3_newStreet 9 = .ok (.iload_n 1, 1) := by decide +kernel
theorem dX3_newStreet_10 : decode cX3_newStreet 10 = .ok (.putfield 42, 3) := by decide +kernel
theorem dX3_newStreet_13 : decode cX3_newStreet 13 = .ok (.aload_n 0, 1) := by decide +kernel
theorem dX3_newStreet_14 : decode cX3_newStreet 14 = .ok (.dup, 1) := by decide +kernel
theorem dX3_newStreet_15 : decode cX3_newStreet 15 = .ok (.getfield 25, 3) := by decide +kernel
theorem dX3_newStreet_18 : decode cX3_newStreet 18 = .ok (.iconst 1, 1) := by decide +kernel
theorem dX3_newStreet_19 : decode cX3_newStreet 19 = .ok (.iadd, 1) := by decide +kernel
theorem dX3_newStreet_20 : decode cX3_newStreet 20 = .ok (.putfield 25, 3) := by decide +kernel
theorem dX3_newStreet_23 : decode cX3_newStreet 23 = .ok (.aload_n 0, 1) := by decide +kernel
theorem dX3_newStreet_24 : decode cX3_newStreet 24 = .ok (.getfield 25, 3) := by decide +kernel
theorem dX3_newStreet_27 : decode cX3_newStreet 27 = .ok (.iconst 1, 1) := by decide +kernel
theorem dX3_newStreet_28 : decode cX3_newStreet 28 = .ok (.isub, 1) := by decide +kernel
theorem dX3_newStreet_29 : decode cX3_newStreet 29 = .ok (.ireturn, 1) := by decide +kernel
set_option maxRecDepth 20000 in
theorem ggX3_newOrgan_X0_moveTo : GoodIn wsX3_newOrgan wsX0_moveTo := goodIn_r _ [8, 9, 10, 11, 34, 35, 36, 37, 38, 39, 40, 41, 42, 43, 44, 45] (by decide +kernel) (by decide +kernel)
set_option maxRecDepth 20000 in
theorem gX3_newOrgan_X0_moveTo : GoodIn wsX3_newOrgan (wsV RX3 45 RX0 yX0_moveTo wsX0_moveTo) := goodIn_app (goodIn_of _ (by decide +kernel)) ggX3_newOrgan_X0_moveTo
set_option maxRecDepth 20000 in
theorem ggX3_newOrgan_X0_putBarrel : GoodIn wsX3_newOrgan wsX0_putBarrel := goodIn_r _ [15, 16, 17, 18, 19, 20, 21, 22, 23, 24, 25, 26, 27, 28, 34, 35, 36, 37, 38, 39, 40, 41, 42, 43, 44, 45] (by decide +kernel) (by decide +kernel)
set_option maxRecDepth 20000 in
theorem gX3_newOrgan_X0_putBarrel : GoodIn wsX3_newOrgan (wsV RX3 52 RX0 yX0_putBarrel wsX0_putBarrel) := goodIn_app (goodIn_of _ (by decide +kernel)) ggX3_newOrgan_X0_putBarrel
theorem dX3_newOrgan_0 : decode cX3_newOrgan 0 = .ok (.aload_n 0, 1) := by decide +kernel
theorem dX3_newOrgan_1 : decode cX3_newOrgan 1 = .ok (.getfield 19, 3) := by decide +kernel
theorem dX3_newOrgan_4 : decode cX3_newOrgan 4 = .ok (.aload_n 0, 1) := by decide +kernel
theorem dX3_newOrgan_5 : decode cX3_newOrgan 5 = .ok (.getfield 29, 3) := by decide +kernel
theorem dX3_newOrgan_8 : decode cX3_newOrgan 8 = .ok (.aaload, 1) := by decide +kernel
theorem dX3_newOrgan_9 : decode cX3_newOrgan 9 = .ok (.astore 4, 2) := by decide +kernel
theorem dX3_newOrgan_11 : decode cX3_newOrgan 11 = .ok (.aload 4, 2) := by decide +kernel
theorem dX3_newOrgan_13 : decode cX3_newOrgan 13 = .ok (.iload_n 1, 1) := by decide +kernel
theorem dX3_newOrgan_14 : decode cX3_newOrgan 14 = .ok (.iload_n 2, 1) := by decide +kernel
theorem dX3_newOrgan_15 : decode cX3_newOrgan 15 = .ok (.iconst 0, 1) := by decide +kernel
theorem dX3_newOrgan_16 : decode cX3_newOrgan 16 = .ok (.invokevirtual 45, 3) := by decide +kernel
theorem dX3_newOrgan_19 : decode cX3_newOrgan 19 = .ok (.aload 4, 2) := by decide +kernel
theorem dX3_newOrgan_21 : decode cX3_newOrgan 21 = .ok (.iload_n 3, 1) := by decide +kernel
theorem dX3_newOrgan_22 : decode cX3_newOrgan 22 = .ok (.putfield 49, 3) := by decide +kernel
theorem dX3_newOrgan_25 : decode cX3_newOrgan 25 = .ok (.aload 4, 2) := by decide +kernel
theorem dX3_newOrgan_27 : decode cX3_newOrgan 27 = .ok (.iconst 1, 1) := by decide +kernel
theorem dX3_newOrgan_28 : decode cX3_newOrgan 28 = .ok (.invokevirtual 52, 3) := by decide +kernel
theorem dX3_newOrgan_31 : decode cX3_newOrgan 31 = .ok (.aload_n 0, 1) := by decide +kernel
theorem dX3_newOrgan_32 : decode cX3_newOrgan 32 = .ok (.dup, 1) := by decide +kernel
theorem dX3_newOrgan_33 : decode cX3_newOrgan 33 = .ok (.getfield 29, 3) := by decide +kernel
theorem dX3_newOrgan_36 : decode cX3_newOrgan 36 = .ok (.iconst 1, 1) := by decide +kernel
theorem dX3_newOrgan_37 : decode cX3_newOrgan 37 = .ok (.iadd, 1) := by decide +kernel
theorem dX3_newOrgan_38 : decode cX3_newOrgan 38 = .ok (.putfield 29, 3) := by decide +kernel
theorem dX3_newOrgan_41 : decode cX3_newOrgan 41 = .ok (.aload_n 0, 1) := by decide +kernel
theorem dX3_newOrgan_42 : decode cX3_newOrgan 42 = .ok (.getfield 29, 3) := by decide +kernel
theorem dX3_newOrgan_45 : decode cX3_newOrgan 45 = .ok (.iconst 1, 1) := by decide +kernel
theorem dX3_newOrgan_46 : decode cX3_newOrgan 46 = .ok (.isub, 1) := by decide +kernel
theorem dX3_newOrgan_47 : decode cX3_newOrgan 47 = .ok (.ireturn, 1) := by decide +kernel
set_option maxRecDepth 20000 in
theorem ggX3_whoIsHeard_X0_soundAt : GoodIn wsX3_whoIsHeard wsX0_soundAt := goodIn_r _ [7, 8, 9, 10, 11, 12, 13, 14, 15, 16, 17, 18, 19, 6, 20, 21, 22, 28, 29, 30, 31, 32, 33, 34, 35, 36, 37, 38, 39] (by decide +kernel) (by decide +kernel)
set_option maxRecDepth 20000 in
theorem gX3_whoIsHeard_X0_soundAt : GoodIn wsX3_whoIsHeard (wsV RX3 56 RX0 yX0_soundAt wsX0_soundAt) := goodIn_app (goodIn_of _ (by decide +kernel)) ggX3_whoIsHeard_X0_soundAt
theorem dX3_whoIsHeard_0 : decode cX3_whoIsHeard 0 = .ok (.iconst (-1), 1) := by decide +kernel
theorem dX3_whoIsHeard_1 : decode cX3_whoIsHeard 1 = .ok (.istore_n 3, 1) := by decide +kernel
theorem dX3_whoIsHeard_2 : decode cX3_whoIsHeard 2 = .ok (.iconst 0, 1) := by decide +kernel
theorem dX3_whoIsHeard_3 : decode cX3_whoIsHeard 3 = .ok (.istore 4, 2) := by decide +kernel
theorem dX3_whoIsHeard_5 : decode cX3_whoIsHeard 5 = .ok (.iconst 0, 1) := by decide +kernel
theorem dX3_whoIsHeard_6 : decode cX3_whoIsHeard 6 = .ok (.istore 5, 2) := by decide +kernel
theorem dX3_whoIsHeard_8 : decode cX3_whoIsHeard 8 = .ok (.iconst 0, 1) := by decide +kernel
theorem dX3_whoIsHeard_9 : decode cX3_whoIsHeard 9 = .ok (.istore 6, 2) := by decide +kernel
theorem dX3_whoIsHeard_11 : decode cX3_whoIsHeard 11 = .ok (.iload 6, 2) := by decide +kernel
theorem dX3_whoIsHeard_13 : decode cX3_whoIsHeard 13 = .ok (.aload_n 0, 1) := by decide +kernel
theorem dX3_whoIsHeard_14 : decode cX3_whoIsHeard 14 = .ok (.getfield 29, 3) := by decide +kernel
theorem dX3_whoIsHeard_17 : decode cX3_whoIsHeard 17 = .ok (.if_icmp .ge 55, 3) := by decide +kernel
theorem dX3_whoIsHeard_20 : decode cX3_whoIsHeard 20 = .ok (.aload_n 0, 1) := by decide +kernel
theorem dX3_whoIsHeard_21 : decode cX3_whoIsHeard 21 = .ok (.getfield 19, 3) := by decide +kernel
theorem dX3_whoIsHeard_24 : decode cX3_whoIsHeard 24 = .ok (.iload 6, 2) := by decide +kernel
theorem dX3_whoIsHeard_26 : decode cX3_whoIsHeard 26 = .ok (.aaload, 1) := by decide +kernel
theorem dX3_whoIsHeard_27 : decode cX3_whoIsHeard 27 = .ok (.iload_n 1, 1) := by decide +kernel
theorem dX3_whoIsHeard_28 : decode cX3_whoIsHeard 28 = .ok (.iload_n 2, 1) := by decide +kernel
theorem dX3_whoIsHeard_29 : decode cX3_whoIsHeard 29 = .ok (.invokevirtual 56, 3) := by decide +kernel
theorem dX3_whoIsHeard_32 : decode cX3_whoIsHeard 32 = .ok (.istore 7, 2) := by decide +kernel
theorem dX3_whoIsHeard_34 : decode cX3_whoIsHeard 34 = .ok (.iload 7, 2) := by decide +kernel
theorem dX3_whoIsHeard_36 : decode cX3_whoIsHeard 36 = .ok (.iload 4, 2) := by decide +kernel
theorem dX3_whoIsHeard_38 : decode cX3_whoIsHeard 38 = .ok (.if_icmp .le 17, 3) := by decide +kernel
theorem dX3_whoIsHeard_41 : decode cX3_whoIsHeard 41 = .ok (.iload 4, 2) := by decide +kernel
theorem dX3_whoIsHeard_43 : decode cX3_whoIsHeard 43 = .ok (.istore 5, 2) := by decide +kernel
theorem dX3_whoIsHeard_45 : decode cX3_whoIsHeard 45 = .ok (.iload 7, 2) := by decide +kernel
theorem dX3_whoIsHeard_47 : decode cX3_whoIsHeard 47 = .ok (.istore 4, 2) := by decide +kernel
theorem dX3_whoIsHeard_49 : decode cX3_whoIsHeard 49 = .ok (.iload 6, 2) := by decide +kernel
theorem dX3_whoIsHeard_51 : decode cX3_whoIsHeard 51 = .ok (.istore_n 3, 1) := by decide +kernel
theorem dX3_whoIsHeard_52 : decode cX3_whoIsHeard 52 = .ok (.goto 14, 3) := by decide +kernel
theorem dX3_whoIsHeard_55 : decode cX3_whoIsHeard 55 = .ok (.iload 7, 2) := by decide +kernel
theorem dX3_whoIsHeard_57 : decode cX3_whoIsHeard 57 = .ok (.iload 5, 2) := by decide +kernel
theorem dX3_whoIsHeard_59 : decode cX3_whoIsHeard 59 = .ok (.if_icmp .le 7, 3) := by decide +kernel
theorem dX3_whoIsHeard_62 : decode cX3_whoIsHeard 62 = .ok (.iload 7, 2) := by decide +kernel
theorem dX3_whoIsHeard_64 : decode cX3_whoIsHeard 64 = .ok (.istore 5, 2) := by decide +kernel
theorem dX3_whoIsHeard_66 : decode cX3_whoIsHeard 66 = .ok (.iinc 6 1, 3) := by decide +kernel
theorem dX3_whoIsHeard_69 : decode cX3_whoIsHeard 69 = .ok (.goto (-58), 3) := by decide +kernel
theorem dX3_whoIsHeard_72 : decode cX3_whoIsHeard 72 = .ok (.iload 5, 2) := by decide +kernel
theorem dX3_whoIsHeard_74 : decode cX3_whoIsHeard 74 = .ok (.ifCond .le 17, 3) := by decide +kernel
theorem dX3_whoIsHeard_77 : decode cX3_whoIsHeard 77 = .ok (.iload 5, 2) := by decide +kernel
theorem dX3_whoIsHeard_79 : decode cX3_whoIsHeard 79 = .ok (.iload 4, 2) := by decide +kernel
theorem dX3_whoIsHeard_81 : decode cX3_whoIsHeard 81 = .ok (.iconst 1, 1) := by decide +kernel
theorem dX3_whoIsHeard_82 : decode cX3_whoIsHeard 82 = .ok (.isub, 1) := by decide +kernel
theorem dX3_whoIsHeard_83 : decode cX3_whoIsHeard 83 = .ok (.if_icmp .lt 8, 3) := by decide +kernel
theorem dX3_whoIsHeard_86 : decode cX3_whoIsHeard 86 = .ok (.bipush (-2), 2) := by decide +kernel
theorem dX3_whoIsHeard_88 : decode cX3_whoIsHeard 88 = .ok (.goto 4, 3) := by decide +kernel
theorem dX3_whoIsHeard_91 : decode cX3_whoIsHeard 91 = .ok (.iload_n 3, 1) := by decide +kernel
theorem dX3_whoIsHeard_92 : decode cX3_whoIsHeard 92 = .ok (.ireturn, 1) := by decide +kernel
set_option maxRecDepth 20000 in
theorem ggX3_coinsGot_X3_passHour : GoodIn wsX3_coinsGot wsX3_passHour := goodIn_r _ [7, 8, 9, 1, 10, 11, 12, 13, 6, 14, 15, 16, 2, 17, 18, 19, 20, 21, 22, 23, 24, 25, 26, 27, 28, 29, 30, 31, 32, 33, 34, 35, 36, 37, 38, 39, 40, 41, 42, 43, 44, 45, 46, 47, 48, 49, 50, 51, 52, 53, 54, 55, 56, 57, 58, 59, 60, 61, 62, 63, 64, 65, 66, 67, 68, 69, 70, 71, 72, 73, 74, 75, 76, 77, 78, 79, 80, 81, 82, 83, 84, 85, 86, 87, 88, 89, 90, 91, 92, 93, 94, 95, 96, 97, 98, 99, 100, 101, 102, 103, 104, 105, 106, 107, 108, 109, 110, 111, 112, 113, 114, 115, 116, 117, 118, 119, 120, 121, 122, 123, 124, 125, 126, 127, 128, 129, 130, 131, 132, 133, 134, 135, 136, 137, 150, 151, 152, 153, 154, 155, 138, 139, 140, 141, 142, 143, 144, 145, 146, 147, 148, 149] (by decide +kernel) (by decide +kernel)
set_option maxRecDepth 20000 in
theorem gX3_coinsGot_X3_passHour : GoodIn wsX3_coinsGot (wsV RX3 63 RX3 yX3_passHour wsX3_passHour) := goodIn_app (goodIn_of _ (by decide +kernel)) ggX3_coinsGot_X3_passHour
theorem dX3_coinsGot_0 : decode cX3_coinsGot 0 = .ok (.aload_n 0, 1) := by decide +kernel
theorem dX3_coinsGot_1 : decode cX3_coinsGot 1 = .ok (.getfield 19, 3) := by decide +kernel
theorem dX3_coinsGot_4 : decode cX3_coinsGot 4 = .ok (.iload_n 1, 1) := by decide +kernel
theorem dX3_coinsGot_5 : decode cX3_coinsGot 5 = .ok (.aaload, 1) := by decide +kernel
theorem dX3_coinsGot_6 : decode cX3_coinsGot 6 = .ok (.getfield 60, 3) := by decide +kernel
theorem dX3_coinsGot_9 : decode cX3_coinsGot 9 = .ok (.istore_n 3, 1) := by decide +kernel
theorem dX3_coinsGot_10 : decode cX3_coinsGot 10 = .ok (.iconst 0, 1) := by decide +kernel
theorem dX3_coinsGot_11 : decode cX3_coinsGot 11 = .ok (.istore 4, 2) := by decide +kernel
theorem dX3_coinsGot_13 : decode cX3_coinsGot 13 = .ok (.iload 4, 2) := by decide +kernel
theorem dX3_coinsGot_15 : decode cX3_coinsGot 15 = .ok (.iload_n 2, 1) := by decide +kernel
theorem dX3_coinsGot_16 : decode cX3_coinsGot 16 = .ok (.if_icmp .ge 14, 3) := by decide +kernel
theorem dX3_coinsGot_19 : decode cX3_coinsGot 19 = .ok (.aload_n 0, 1) := by decide +kernel
theorem dX3_coinsGot_20 : decode cX3_coinsGot 20 = .ok (.invokevirtual 63, 3) := by decide +kernel
theorem dX3_coinsGot_23 : decode cX3_coinsGot 23 = .ok (.pop, 1) := by decide +kernel
theorem dX3_coinsGot_24 : decode cX3_coinsGot 24 = .ok (.iinc 4 1, 3) := by decide +kernel
theorem dX3_coinsGot_27 : decode cX3_coinsGot 27 = .ok (.goto (-14), 3) := by decide +kernel
theorem dX3_coinsGot_30 : decode cX3_coinsGot 30 = .ok (.aload_n 0, 1) := by decide +kernel
theorem dX3_coinsGot_31 : decode cX3_coinsGot 31 = .ok (.getfield 19, 3) := by decide +kernel
theorem dX3_coinsGot_34 : decode cX3_coinsGot 34 = .ok (.iload_n 1, 1) := by decide +kernel
theorem dX3_coinsGot_35 : decode cX3_coinsGot 35 = .ok (.aaload, 1) := by decide +kernel
theorem dX3_coinsGot_36 : decode cX3_coinsGot 36 = .ok (.getfield 60, 3) := by decide +kernel
theorem dX3_coinsGot_39 : decode cX3_coinsGot 39 = .ok (.iload_n 3, 1) := by decide +kernel
theorem dX3_coinsGot_40 : decode cX3_coinsGot 40 = .ok (.isub, 1) := by decide +kernel
theorem dX3_coinsGot_41 : decode cX3_coinsGot 41 = .ok (.ireturn, 1) := by decide +kernel
set_option maxRecDepth 20000 in
theorem ggX3_passHour_X3_giveCoins : GoodIn wsX3_passHour wsX3_giveCoins := goodIn_r _ [9, 10, 11, 3, 12, 13, 14, 15, 16, 8, 17, 2, 18, 19, 20, 21, 22, 23, 24, 25, 26, 27, 28, 29, 30, 31, 32, 33, 34, 35, 36, 37, 38, 39, 40, 41, 42, 43, 44, 45, 46, 47, 48, 49, 50, 51, 52, 53, 54, 55, 56, 57, 58, 59, 60, 61, 62, 63, 64, 65, 66, 4, 67, 68, 69, 70, 129, 130, 131, 132, 133, 134, 135, 136, 137, 138, 139, 140, 141, 142, 143, 144, 145, 146, 147, 148, 149, 150, 151] (by decide +kernel) (by decide +kernel)
set_option maxRecDepth 20000 in
theorem gX3_passHour_X3_giveCoins : GoodIn wsX3_passHour (wsV RX3 67 RX3 yX3_giveCoins wsX3_giveCoins) := goodIn_app (goodIn_of _ (by decide +kernel)) ggX3_passHour_X3_giveCoins
set_option maxRecDepth 20000 in
theorem ggX3_passHour_X3_tireEars : GoodIn wsX3_passHour wsX3_tireEars := goodIn_r _ [74, 10, 75, 76, 77, 8, 78, 2, 3, 18, 19, 20, 21, 22, 23, 24, 56, 57, 58, 59, 60, 61, 79, 80, 81, 82, 83, 84, 85, 86, 37, 87, 88, 40, 41, 129, 130, 131, 132, 133, 140, 141, 142, 143, 144, 145, 146, 147, 148, 149, 150, 151, 134, 135, 136, 137, 138, 139] (by decide +kernel) (by decide +kernel)
set_option maxRecDepth 20000 in
theorem gX3_passHour_X3_tireEars : GoodIn wsX3_passHour (wsV RX3 71 RX3 yX3_tireEars wsX3_tireEars) := goodIn_app (goodIn_of _ (by decide +kernel)) ggX3_passHour_X3_tireEars
set_option maxRecDepth 20000 in
theorem ggX3_passHour_X3_turnBarrels : GoodIn wsX3_passHour wsX3_turnBarrels := goodIn_r _ [92, 2, 3, 93, 94, 95, 96, 21, 97, 98, 99, 86, 37, 87, 60, 100, 101, 57, 58, 59, 61, 129, 130, 131, 132, 133, 140, 141, 142, 143, 144, 145, 146, 147, 148, 149, 150, 151] (by decide +kernel) (by decide +kernel)
set_option maxRecDepth 20000 in
theorem gX3_passHour_X3_turnBarrels : GoodIn wsX3_passHour (wsV RX3 74 RX3 yX3_turnBarrels wsX3_turnBarrels) := goodIn_app (goodIn_of _ (by decide +kernel)) ggX3_passHour_X3_turnBarrels
set_option maxRecDepth 20000 in
theorem ggX3_passHour_X3_callConstables : GoodIn wsX3_passHour wsX3_callConstables := goodIn_r _ [105, 2, 3, 48, 106, 107, 108, 8, 109, 110, 111, 112, 113, 114, 10, 115, 18, 19, 20, 21, 22, 23, 24, 116, 117, 118, 119, 1, 120, 121, 122, 123, 34, 129, 130, 131, 132, 133, 140, 141, 142, 143, 144, 145, 146, 147, 148, 149, 150, 151, 134, 135, 136, 137, 138, 139] (by decide +kernel) (by decide +kernel)
set_option maxRecDepth 20000 in
theorem gX3_passHour_X3_callConstables : GoodIn wsX3_passHour (wsV RX3 77 RX3 yX3_callConstables wsX3_callConstables) := goodIn_app (goodIn_of _ (by decide +kernel)) ggX3_passHour_X3_callConstables
set_option maxRecDepth 20000 in
theorem ggX3_passHour_X0_anHourLess : GoodIn wsX3_passHour wsX0_anHourLess := goodIn_r _ [127, 23, 128, 140, 141, 142, 143, 144, 145, 146, 147, 148, 149, 150, 151] (by decide +kernel) (by decide +kernel)
set_option maxRecDepth 20000 in
theorem gX3_passHour_X0_anHourLess : GoodIn wsX3_passHour (wsV RX3 80 RX0 yX0_anHourLess wsX0_anHourLess) := goodIn_app (goodIn_of _ (by decide +kernel)) ggX3_passHour_X0_anHourLess
theorem dX3_passHour_0 : decode cX3_passHour 0 = .ok (.iconst 0, 1) := by decide +kernel
theorem dX3_passHour_1 : decode cX3_passHour 1 = .ok (.istore_n 1, 1) := by decide +kernel
theorem dX3_passHour_2 : decode cX3_passHour 2 = .ok (.iconst 0, 1) := by decide +kernel
theorem dX3_passHour_3 : decode cX3_passHour 3 = .ok (.istore_n 2, 1) := by decide +kernel
theorem dX3_passHour_4 : decode cX3_passHour 4 = .ok (.iload_n 2, 1) := by decide +kernel
theorem dX3_passHour_5 : decode cX3_passHour 5 = .ok (.aload_n 0, 1) := by decide +kernel
theorem dX3_passHour_6 : decode cX3_passHour 6 = .ok (.getfield 25, 3) := by decide +kernel
theorem dX3_passHour_9 : decode cX3_passHour 9 = .ok (.if_icmp .ge 17, 3) := by decide +kernel
theorem dX3_passHour_12 : decode cX3_passHour 12 = .ok (.iload_n 1, 1) := by decide +kernel
theorem dX3_passHour_13 : decode cX3_passHour 13 = .ok (.aload_n 0, 1) := by decide +kernel
theorem dX3_passHour_14 : decode cX3_passHour 14 = .ok (.iload_n 2, 1) := by decide +kernel
theorem dX3_passHour_15 : decode cX3_passHour 15 = .ok (.invokevirtual 67, 3) := by decide +kernel
theorem dX3_passHour_18 : decode cX3_passHour 18 = .ok (.iadd, 1) := by decide +kernel
theorem dX3_passHour_19 : decode cX3_passHour 19 = .ok (.istore_n 1, 1) := by decide +kernel
theorem dX3_passHour_20 : decode cX3_passHour 20 = .ok (.iinc 2 1, 3) := by decide +kernel
theorem dX3_passHour_23 : decode cX3_passHour 23 = .ok (.goto (-19), 3) := by decide +kernel
theorem dX3_passHour_26 : decode cX3_passHour 26 = .ok (.iconst 0, 1) := by decide +kernel
theorem dX3_passHour_27 : decode cX3_passHour 27 = .ok (.istore_n 2, 1) := by decide +kernel
theorem dX3_passHour_28 : decode cX3_passHour 28 = .ok (.iload_n 2, 1) := by decide +kernel
theorem dX3_passHour_29 : decode cX3_passHour 29 = .ok (.aload_n 0, 1) := by decide +kernel
theorem dX3_passHour_30 : decode cX3_passHour 30 = .ok (.getfield 25, 3) := by decide +kernel
theorem dX3_passHour_33 : decode cX3_passHour 33 = .ok (.if_icmp .ge 14, 3) := by decide +kernel
theorem dX3_passHour_36 : decode cX3_passHour 36 = .ok (.aload_n 0, 1) := by decide +kernel
theorem dX3_passHour_37 : decode cX3_passHour 37 = .ok (.iload_n 2, 1) := by decide +kernel
theorem dX3_passHour_38 : decode cX3_passHour 38 = .ok (.invokevirtual 71, 3) := by decide +kernel
theorem dX3_passHour_41 : decode cX3_passHour 41 = .ok (.iinc 2 1, 3) := by decide +kernel
theorem dX3_passHour_44 : decode cX3_passHour 44 = .ok (.goto (-16), 3) := by decide +kernel
theorem dX3_passHour_47 : decode cX3_passHour 47 = .ok (.aload_n 0, 1) := by decide +kernel
theorem dX3_passHour_48 : decode cX3_passHour 48 = .ok (.invokevirtual 74, 3) := by decide +kernel
theorem dX3_passHour_51 : decode cX3_passHour 51 = .ok (.iconst 0, 1) := by decide +kernel
theorem dX3_passHour_52 : decode cX3_passHour 52 = .ok (.istore_n 2, 1) := by decide +kernel
theorem dX3_passHour_53 : decode cX3_passHour 53 = .ok (.iload_n 2, 1) := by decide +kernel
theorem dX3_passHour_54 : decode cX3_passHour 54 = .ok (.aload_n 0, 1) := by decide +kernel
theorem dX3_passHour_55 : decode cX3_passHour 55 = .ok (.getfield 25, 3) := by decide +kernel
theorem dX3_passHour_58 : decode cX3_passHour 58 = .ok (.if_icmp .ge 14, 3) := by decide +kernel
theorem dX3_passHour_61 : decode cX3_passHour 61 = .ok (.aload_n 0, 1) := by decide +kernel
theorem dX3_passHour_62 : decode cX3_passHour 62 = .ok (.iload_n 2, 1) := by decide +kernel
theorem dX3_passHour_63 : decode cX3_passHour 63 = .ok (.invokevirtual 77, 3) := by decide +kernel
theorem dX3_passHour_66 : decode cX3_passHour 66 = .ok (.iinc 2 1, 3) := by decide +kernel
theorem dX3_passHour_69 : decode cX3_passHour 69 = .ok (.goto (-16), 3) := by decide +kernel
theorem dX3_passHour_72 : decode cX3_passHour 72 = .ok (.iconst 0, 1) := by decide +kernel
theorem dX3_passHour_73 : decode cX3_passHour 73 = .ok (.istore_n 2, 1) := by decide +kernel
theorem dX3_passHour_74 : decode cX3_passHour 74 = .ok (.iload_n 2, 1) := by decide +kernel
theorem dX3_passHour_75 : decode cX3_passHour 75 = .ok (.aload_n 0, 1) := by decide +kernel
theorem dX3_passHour_76 : decode cX3_passHour 76 = .ok (.getfield 29, 3) := by decide +kernel
theorem dX3_passHour_79 : decode cX3_passHour 79 = .ok (.if_icmp .ge 18, 3) := by decide +kernel
theorem dX3_passHour_82 : decode cX3_passHour 82 = .ok (.aload_n 0, 1) := by decide +kernel
theorem dX3_passHour_83 : decode cX3_passHour 83 = .ok (.getfield 19, 3) := by decide +kernel
theorem dX3_passHour_86 : decode cX3_passHour 86 = .ok (.iload_n 2, 1) := by decide +kernel
theorem dX3_passHour_87 : decode cX3_passHour 87 = .ok (.aaload, 1) := by decide +kernel
theorem dX3_passHour_88 : decode cX3_passHour 88 = .ok (.invokevirtual 80, 3) := by decide +kernel
theorem dX3_passHour_91 : decode cX3_passHour 91 = .ok (.iinc 2 1, 3) := by decide +kernel
theorem dX3_passHour_94 : decode cX3_passHour 94 = .ok (.goto (-20), 3) := by decide +kernel
theorem dX3_passHour_97 : decode cX3_passHour 97 = .ok (.aload_n 0, 1) := by decide +kernel
theorem dX3_passHour_98 : decode cX3_passHour 98 = .ok (.dup, 1) := by decide +kernel
theorem dX3_passHour_99 : decode cX3_passHour 99 = .ok (.getfield 32, 3) := by decide +kernel
theorem dX3_passHour_102 : decode cX3_passHour 102 = .ok (.iconst 1, 1) := by decide +kernel
theorem dX3_passHour_103 : decode cX3_passHour 103 = .ok (.iadd, 1) := by decide +kernel
theorem dX3_passHour_104 : decode cX3_passHour 104 = .ok (.putfield 32, 3) := by decide +kernel
theorem dX3_passHour_107 : decode cX3_passHour 107 = .ok (.iload_n 1, 1) := by decide +kernel
theorem dX3_passHour_108 : decode cX3_passHour 108 = .ok (.ireturn, 1) := by decide +kernel
set_option maxRecDepth 20000 in
theorem ggX3_giveCoins_X3_standingIn : GoodIn wsX3_giveCoins wsX3_standingIn := goodIn_r _ [10, 11, 3, 12, 13, 14, 15, 16, 17, 18, 66, 67, 68, 69, 70, 77, 78, 79, 80, 81, 82, 83, 84, 85, 86, 87, 88] (by decide +kernel) (by decide +kernel)
set_option maxRecDepth 20000 in
theorem gX3_giveCoins_X3_standingIn : GoodIn wsX3_giveCoins (wsV RX3 83 RX3 yX3_standingIn wsX3_standingIn) := goodIn_app (goodIn_of _ (by decide +kernel)) ggX3_giveCoins_X3_standingIn
set_option maxRecDepth 20000 in
theorem ggX3_giveCoins_X3_whoIsHeard : GoodIn wsX3_giveCoins wsX3_whoIsHeard := goodIn_r _ [22, 11, 3, 23, 24, 25, 15, 26, 27, 28, 29, 30, 31, 32, 33, 34, 35, 36, 13, 14, 16, 17, 18, 66, 67, 68, 69, 70, 77, 78, 79, 80, 81, 82, 83, 84, 85, 86, 87, 88] (by decide +kernel) (by decide +kernel)
set_option maxRecDepth 20000 in
theorem gX3_giveCoins_X3_whoIsHeard : GoodIn wsX3_giveCoins (wsV RX3 86 RX3 yX3_whoIsHeard wsX3_whoIsHeard) := goodIn_app (goodIn_of _ (by decide +kernel)) ggX3_giveCoins_X3_whoIsHeard
set_option maxRecDepth 20000 in
theorem ggX3_giveCoins_X3_complain : GoodIn wsX3_giveCoins wsX3_complain := goodIn_r _ [40, 11, 3, 41, 34, 31, 35, 42, 23, 24, 25, 15, 26, 27, 28, 29, 30, 32, 33, 36, 13, 14, 16, 17, 18, 66, 67, 68, 69, 70, 77, 78, 79, 80, 81, 82, 83, 84, 85, 86, 87, 88] (by decide +kernel) (by decide +kernel)
set_option maxRecDepth 20000 in
theorem gX3_giveCoins_X3_complain : GoodIn wsX3_giveCoins (wsV RX3 89 RX3 yX3_complain wsX3_complain) := goodIn_app (goodIn_of _ (by decide +kernel)) ggX3_giveCoins_X3_complain
set_option maxRecDepth 20000 in
theorem ggX3_giveCoins_X3_coinsFor : GoodIn wsX3_giveCoins wsX3_coinsFor := goodIn_r _ [46, 47, 48, 49, 41, 34, 31, 35, 50, 51, 52, 15, 53, 54, 55, 56, 57, 58, 9, 59, 60, 61, 62, 63, 64, 65, 71, 72, 73, 74, 75, 76, 77, 78, 79, 80, 81, 82, 83, 84, 85, 86, 87, 88, 66, 67, 68, 69, 70] (by decide +kernel) (by decide +kernel)
set_option maxRecDepth 20000 in
theorem gX3_giveCoins_X3_coinsFor : GoodIn wsX3_giveCoins (wsV RX3 93 RX3 yX3_coinsFor wsX3_coinsFor) := goodIn_app (goodIn_of _ (by decide +kernel)) ggX3_giveCoins_X3_coinsFor
theorem dX3_giveCoins_0 : decode cX3_giveCoins 0 = .ok (.aload_n 0, 1) := by decide +kernel
theorem dX3_giveCoins_1 : decode cX3_giveCoins 1 = .ok (.iload_n 1, 1) := by decide +kernel
theorem dX3_giveCoins_2 : decode cX3_giveCoins 2 = .ok (.invokevirtual 83, 3) := by decide +kernel
theorem dX3_giveCoins_5 : decode cX3_giveCoins 5 = .ok (.ifCond .ne 5, 3) := by decide +kernel
theorem dX3_giveCoins_8 : decode cX3_giveCoins 8 = .ok (.iconst 0, 1) := by decide +kernel
theorem dX3_giveCoins_9 : decode cX3_giveCoins 9 = .ok (.ireturn, 1) := by decide +kernel
theorem dX3_giveCoins_10 : decode cX3_giveCoins 10 = .ok (.iconst 0, 1) := by decide +kernel
theorem dX3_giveCoins_11 : decode cX3_giveCoins 11 = .ok (.istore_n 2, 1) := by decide +kernel
theorem dX3_giveCoins_12 : decode cX3_giveCoins 12 = .ok (.iconst 0, 1) := by decide +kernel
theorem dX3_giveCoins_13 : decode cX3_giveCoins 13 = .ok (.istore_n 3, 1) := by decide +kernel
theorem dX3_giveCoins_14 : decode cX3_giveCoins 14 = .ok (.iload_n 3, 1) := by decide +kernel
theorem dX3_giveCoins_15 : decode cX3_giveCoins 15 = .ok (.aload_n 0, 1) := by decide +kernel
theorem dX3_giveCoins_16 : decode cX3_giveCoins 16 = .ok (.getfield 11, 3) := by decide +kernel
theorem dX3_giveCoins_19 : decode cX3_giveCoins 19 = .ok (.iload_n 1, 1) := by decide +kernel
theorem dX3_giveCoins_20 : decode cX3_giveCoins 20 = .ok (.aaload, 1) := by decide +kernel
theorem dX3_giveCoins_21 : decode cX3_giveCoins 21 = .ok (.getfield 42, 3) := by decide +kernel
theorem dX3_giveCoins_24 : decode cX3_giveCoins 24 = .ok (.if_icmp .ge 79, 3) := by decide +kernel
theorem dX3_giveCoins_27 : decode cX3_giveCoins 27 = .ok (.aload_n 0, 1) := by decide +kernel
theorem dX3_giveCoins_28 : decode cX3_giveCoins 28 = .ok (.iload_n 1, 1) := by decide +kernel
theorem dX3_giveCoins_29 : decode cX3_giveCoins 29 = .ok (.iload_n 3, 1) := by decide +kernel
theorem dX3_giveCoins_30 : decode cX3_giveCoins 30 = .ok (.invokevirtual 86, 3) := by decide +kernel
theorem dX3_giveCoins_33 : decode cX3_giveCoins 33 = .ok (.istore 4, 2) := by decide +kernel
theorem dX3_giveCoins_35 : decode cX3_giveCoins 35 = .ok (.iload 4, 2) := by decide +kernel
theorem dX3_giveCoins_37 : decode cX3_giveCoins 37 = .ok (.bipush (-2), 2) := by decide +kernel
theorem dX3_giveCoins_39 : decode cX3_giveCoins 39 = .ok (.if_icmp .ne 12, 3) := by decide +kernel
theorem dX3_giveCoins_42 : decode cX3_giveCoins 42 = .ok (.aload_n 0, 1) := by decide +kernel
theorem dX3_giveCoins_43 : decode cX3_giveCoins 43 = .ok (.iload_n 1, 1) := by decide +kernel
theorem dX3_giveCoins_44 : decode cX3_giveCoins 44 = .ok (.iload_n 3, 1) := by decide +kernel
theorem dX3_giveCoins_45 : decode cX3_giveCoins 45 = .ok (.invokevirtual 89, 3) := by decide +kernel
theorem dX3_giveCoins_48 : decode cX3_giveCoins 48 = .ok (.goto 49, 3) := by decide +kernel
theorem dX3_giveCoins_51 : decode cX3_giveCoins 51 = .ok (.iload 4, 2) := by decide +kernel
theorem dX3_giveCoins_53 : decode cX3_giveCoins 53 = .ok (.ifCond .lt 44, 3) := by decide +kernel
theorem dX3_giveCoins_56 : decode cX3_giveCoins 56 = .ok (.aload_n 0, 1) := by decide +kernel
theorem dX3_giveCoins_57 : decode cX3_giveCoins 57 = .ok (.aload_n 0, 1) := by decide +kernel
theorem dX3_giveCoins_58 : decode cX3_giveCoins 58 = .ok (.getfield 19, 3) := by decide +kernel
theorem dX3_giveCoins_61 : decode cX3_giveCoins 61 = .ok (.iload 4, 2) := by decide +kernel
theorem dX3_giveCoins_63 : decode cX3_giveCoins 63 = .ok (.aaload, 1) := by decide +kernel
theorem dX3_giveCoins_64 : decode cX3_giveCoins 64 = .ok (.aload_n 0, 1) := by decide +kernel
theorem dX3_giveCoins_65 : decode cX3_giveCoins 65 = .ok (.getfield 11, 3) := by decide +kernel
theorem dX3_giveCoins_68 : decode cX3_giveCoins 68 = .ok (.iload_n 1, 1) := by decide +kernel
theorem dX3_giveCoins_69 : decode cX3_giveCoins 69 = .ok (.aaload, 1) := by decide +kernel
theorem dX3_giveCoins_70 : decode cX3_giveCoins 70 = .ok (.invokevirtual 93, 3) := by decide +kernel
theorem dX3_giveCoins_73 : decode cX3_giveCoins 73 = .ok (.istore 5, 2) := by decide +kernel
theorem dX3_giveCoins_75 : decode cX3_giveCoins 75 = .ok (.aload_n 0, 1) := by decide +kernel
theorem dX3_giveCoins_76 : decode cX3_giveCoins 76 = .ok (.getfield 19, 3) := by decide +kernel
theorem dX3_giveCoins_79 : decode cX3_giveCoins 79 = .ok (.iload 4, 2) := by decide +kernel
theorem dX3_giveCoins_81 : decode cX3_giveCoins 81 = .ok (.aaload, 1) := by decide +kernel
theorem dX3_giveCoins_82 : decode cX3_giveCoins 82 = .ok (.dup, 1) := by decide +kernel
theorem dX3_giveCoins_83 : decode cX3_giveCoins 83 = .ok (.getfield 60, 3) := by decide +kernel
theorem dX3_giveCoins_86 : decode cX3_giveCoins 86 = .ok (.iload 5, 2) := by decide +kernel
theorem dX3_giveCoins_88 : decode cX3_giveCoins 88 = .ok (.iadd, 1) := by decide +kernel
theorem dX3_giveCoins_89 : decode cX3_giveCoins 89 = .ok (.putfield 60, 3) := by decide +kernel
theorem dX3_giveCoins_92 : decode cX3_giveCoins 92 = .ok (.iload_n 2, 1) := by decide +kernel
theorem dX3_giveCoins_93 : decode cX3_giveCoins 93 = .ok (.iload 5, 2) := by decide +kernel
theorem dX3_giveCoins_95 : decode cX3_giveCoins 95 = .ok (.iadd, 1) := by decide +kernel
theorem dX3_giveCoins_96 : decode cX3_giveCoins 96 = .ok (.istore_n 2, 1) := by decide +kernel
theorem dX3_giveCoins_97 : decode cX3_giveCoins 97 = .ok (.iinc 3 1, 3) := by decide +kernel
theorem dX3_giveCoins_100 : decode cX3_giveCoins 100 = .ok (.goto (-86), 3) := by decide +kernel
theorem dX3_giveCoins_103 : decode cX3_giveCoins 103 = .ok (.aload_n 0, 1) := by decide +kernel
theorem dX3_giveCoins_104 : decode cX3_giveCoins 104 = .ok (.getfield 11, 3) := by decide +kernel
theorem dX3_giveCoins_107 : decode cX3_giveCoins 107 = .ok (.iload_n 1, 1) := by decide +kernel
theorem dX3_giveCoins_108 : decode cX3_giveCoins 108 = .ok (.aaload, 1) := by decide +kernel
theorem dX3_giveCoins_109 : decode cX3_giveCoins 109 = .ok (.dup, 1) := by decide +kernel
theorem dX3_giveCoins_110 : decode cX3_giveCoins 110 = .ok (.getfield 97, 3) := by decide +kernel
theorem dX3_giveCoins_113 : decode cX3_giveCoins 113 = .ok (.iload_n 2, 1) := by decide +kernel
theorem dX3_giveCoins_114 : decode cX3_giveCoins 114 = .ok (.iadd, 1) := by decide +kernel
theorem dX3_giveCoins_115 : decode cX3_giveCoins 115 = .ok (.putfield 97, 3) := by decide +kernel
theorem dX3_giveCoins_118 : decode cX3_giveCoins 118 = .ok (.iload_n 2, 1) := by decide +kernel
theorem dX3_giveCoins_119 : decode cX3_giveCoins 119 = .ok (.ireturn, 1) := by decide +kernel
set_option maxRecDepth 20000 in
theorem ggX3_coinsFor_X0_nextTune : GoodIn wsX3_coinsFor wsX0_nextTune := goodIn_r _ [12, 13, 14, 32, 33, 34, 35, 36, 37, 38, 39, 40, 41, 42, 43] (by decide +kernel) (by decide +kernel)
set_option maxRecDepth 20000 in
theorem gX3_coinsFor_X0_nextTune : GoodIn wsX3_coinsFor (wsV RX3 98 RX0 yX0_nextTune wsX0_nextTune) := goodIn_app (goodIn_of _ (by decide +kernel)) ggX3_coinsFor_X0_nextTune
set_option maxRecDepth 20000 in
theorem ggX3_coinsFor_X3_passersNow : GoodIn wsX3_coinsFor wsX3_passersNow := goodIn_r _ [19, 20, 21, 22, 23, 24, 25, 26, 27, 28, 29, 30, 31, 44, 45, 46, 47, 48] (by decide +kernel) (by decide +kernel)
set_option maxRecDepth 20000 in
theorem gX3_coinsFor_X3_passersNow : GoodIn wsX3_coinsFor (wsV RX3 111 RX3 yX3_passersNow wsX3_passersNow) := goodIn_app (goodIn_of _ (by decide +kernel)) ggX3_coinsFor_X3_passersNow
theorem dX3_coinsFor_0 : decode cX3_coinsFor 0 = .ok (.aload_n 1, 1) := by decide +kernel
theorem dX3_coinsFor_1 : decode cX3_coinsFor 1 = .ok (.invokevirtual 98, 3) := by decide +kernel
theorem dX3_coinsFor_4 : decode cX3_coinsFor 4 = .ok (.istore_n 3, 1) := by decide +kernel
theorem dX3_coinsFor_5 : decode cX3_coinsFor 5 = .ok (.iload_n 3, 1) := by decide +kernel
theorem dX3_coinsFor_6 : decode cX3_coinsFor 6 = .ok (.ifCond .lt 9, 3) := by decide +kernel
theorem dX3_coinsFor_9 : decode cX3_coinsFor 9 = .ok (.iload_n 3, 1) := by decide +kernel
theorem dX3_coinsFor_10 : decode cX3_coinsFor 10 = .ok (.bipush 6, 2) := by decide +kernel
theorem dX3_coinsFor_12 : decode cX3_coinsFor 12 = .ok (.if_icmp .lt 5, 3) := by decide +kernel
theorem dX3_coinsFor_15 : decode cX3_coinsFor 15 = .ok (.iconst 0, 1) := by decide +kernel
theorem dX3_coinsFor_16 : decode cX3_coinsFor 16 = .ok (.ireturn, 1) := by decide +kernel
theorem dX3_coinsFor_17 : decode cX3_coinsFor 17 = .ok (.aload_n 2, 1) := by decide +kernel
theorem dX3_coinsFor_18 : decode cX3_coinsFor 18 = .ok (.getfield 101, 3) := by decide +kernel
theorem dX3_coinsFor_21 : decode cX3_coinsFor 21 = .ok (.iload_n 3, 1) := by decide +kernel
theorem dX3_coinsFor_22 : decode cX3_coinsFor 22 = .ok (.iaload, 1) := by decide +kernel
theorem dX3_coinsFor_23 : decode cX3_coinsFor 23 = .ok (.aload_n 2, 1) := by decide +kernel
theorem dX3_coinsFor_24 : decode cX3_coinsFor 24 = .ok (.getfield 105, 3) := by decide +kernel
theorem dX3_coinsFor_27 : decode cX3_coinsFor 27 = .ok (.iload_n 3, 1) := by decide +kernel
theorem dX3_coinsFor_28 : decode cX3_coinsFor 28 = .ok (.iaload, 1) := by decide +kernel
theorem dX3_coinsFor_29 : decode cX3_coinsFor 29 = .ok (.isub, 1) := by decide +kernel
theorem dX3_coinsFor_30 : decode cX3_coinsFor 30 = .ok (.aload_n 1, 1) := by decide +kernel
theorem dX3_coinsFor_31 : decode cX3_coinsFor 31 = .ok (.getfield 108, 3) := by decide +kernel
theorem dX3_coinsFor_34 : decode cX3_coinsFor 34 = .ok (.iload_n 3, 1) := by decide +kernel
theorem dX3_coinsFor_35 : decode cX3_coinsFor 35 = .ok (.iaload, 1) := by decide +kernel
theorem dX3_coinsFor_36 : decode cX3_coinsFor 36 = .ok (.bipush 10, 2) := by decide +kernel
theorem dX3_coinsFor_38 : decode cX3_coinsFor 38 = .ok (.idiv, 1) := by decide +kernel
theorem dX3_coinsFor_39 : decode cX3_coinsFor 39 = .ok (.isub, 1) := by decide +kernel
theorem dX3_coinsFor_40 : decode cX3_coinsFor 40 = .ok (.istore 4, 2) := by decide +kernel
theorem dX3_coinsFor_42 : decode cX3_coinsFor 42 = .ok (.aload_n 0, 1) := by decide +kernel
theorem dX3_coinsFor_43 : decode cX3_coinsFor 43 = .ok (.aload_n 2, 1) := by decide +kernel
theorem dX3_coinsFor_44 : decode cX3_coinsFor 44 = .ok (.invokevirtual 111, 3) := by decide +kernel
theorem dX3_coinsFor_47 : decode cX3_coinsFor 47 = .ok (.iconst 0, 1) := by decide +kernel
theorem dX3_coinsFor_48 : decode cX3_coinsFor 48 = .ok (.iload 4, 2) := by decide +kernel
theorem dX3_coinsFor_50 : decode cX3_coinsFor 50 = .ok (.invokestatic 115, 3) := by decide +kernel
theorem dX3_coinsFor_53 : decode cX3_coinsFor 53 = .ok (.imul, 1) := by decide +kernel
theorem dX3_coinsFor_54 : decode cX3_coinsFor 54 = .ok (.bipush 10, 2) := by decide +kernel
theorem dX3_coinsFor_56 : decode cX3_coinsFor 56 = .ok (.idiv, 1) := by decide +kernel
theorem dX3_coinsFor_57 : decode cX3_coinsFor 57 = .ok (.ireturn, 1) := by decide +kernel
set_option maxRecDepth 20000 in
theorem ggX3_passersNow_J9_floorMod_7cf53 : GoodIn wsX3_passersNow wsJ9_floorMod_7cf53 := goodIn_r _ [6] (by decide +kernel) (by decide +kernel)
set_option maxRecDepth 20000 in
theorem gX3_passersNow_J9_floorMod_7cf53 : GoodIn wsX3_passersNow (va_wsS RX3 123 yJ9_floorMod_7cf53 wsJ9_floorMod_7cf53) := goodIn_app (goodIn_of _ (by decide +kernel)) ggX3_passersNow_J9_floorMod_7cf53
theorem dX3_passersNow_0 : decode cX3_passersNow 0 = .ok (.aload_n 1, 1) := by decide +kernel
theorem dX3_passersNow_1 : decode cX3_passersNow 1 = .ok (.getfield 120, 3) := by decide +kernel
theorem dX3_passersNow_4 : decode cX3_passersNow 4 = .ok (.aload_n 0, 1) := by decide +kernel
theorem dX3_passersNow_5 : decode cX3_passersNow 5 = .ok (.getfield 32, 3) := by decide +kernel
theorem dX3_passersNow_8 : decode cX3_passersNow 8 = .ok (.bipush 24, 2) := by decide +kernel
theorem dX3_passersNow_10 : decode cX3_passersNow 10 = .ok (.invokestatic 123, 3) := by decide +kernel
theorem dX3_passersNow_13 : decode cX3_passersNow 13 = .ok (.iaload, 1) := by decide +kernel
theorem dX3_passersNow_14 : decode cX3_passersNow 14 = .ok (.ireturn, 1) := by decide +kernel
set_option maxRecDepth 20000 in
theorem ggX3_complain_X0_soundAt : GoodIn wsX3_complain wsX0_soundAt := goodIn_r _ [12, 13, 14, 15, 16, 5, 17, 18, 4, 6, 19, 20, 21, 11, 22, 23, 24, 30, 31, 32, 33, 34, 35, 36, 37, 38, 39, 40, 41] (by decide +kernel) (by decide +kernel)
set_option maxRecDepth 20000 in
theorem gX3_complain_X0_soundAt : GoodIn wsX3_complain (wsV RX3 56 RX0 yX0_soundAt wsX0_soundAt) := goodIn_app (goodIn_of _ (by decide +kernel)) ggX3_complain_X0_soundAt
theorem dX3_complain_0 : decode cX3_complain 0 = .ok (.iconst 0, 1) := by decide +kernel
theorem dX3_complain_1 : decode cX3_complain 1 = .ok (.istore_n 3, 1) := by decide +kernel
theorem dX3_complain_2 : decode cX3_complain 2 = .ok (.iconst 0, 1) := by decide +kernel
theorem dX3_complain_3 : decode cX3_complain 3 = .ok (.istore 4, 2) := by decide +kernel
theorem dX3_complain_5 : decode cX3_complain 5 = .ok (.iload 4, 2) := by decide +kernel
theorem dX3_complain_7 : decode cX3_complain 7 = .ok (.aload_n 0, 1) := by decide +kernel
theorem dX3_complain_8 : decode cX3_complain 8 = .ok (.getfield 29, 3) := by decide +kernel
theorem dX3_complain_11 : decode cX3_complain 11 = .ok (.if_icmp .ge 26, 3) := by decide +kernel
theorem dX3_complain_14 : decode cX3_complain 14 = .ok (.iload_n 3, 1) := by decide +kernel
theorem dX3_complain_15 : decode cX3_complain 15 = .ok (.aload_n 0, 1) := by decide +kernel
theorem dX3_complain_16 : decode cX3_complain 16 = .ok (.getfield 19, 3) := by decide +kernel
theorem dX3_complain_19 : decode cX3_complain 19 = .ok (.iload 4, 2) := by decide +kernel
theorem dX3_complain_21 : decode cX3_complain 21 = .ok (.aaload, 1) := by decide +kernel
theorem dX3_complain_22 : decode cX3_complain 22 = .ok (.iload_n 1, 1) := by decide +kernel
theorem dX3_complain_23 : decode cX3_complain 23 = .ok (.iload_n 2, 1) := by decide +kernel
theorem dX3_complain_24 : decode cX3_complain 24 = .ok (.invokevirtual 56, 3) := by decide +kernel
theorem dX3_complain_27 : decode cX3_complain 27 = .ok (.invokestatic 115, 3) := by decide +kernel
theorem dX3_complain_30 : decode cX3_complain 30 = .ok (.istore_n 3, 1) := by decide +kernel
theorem dX3_complain_31 : decode cX3_complain 31 = .ok (.iinc 4 1, 3) := by decide +kernel
theorem dX3_complain_34 : decode cX3_complain 34 = .ok (.goto (-29), 3) := by decide +kernel
theorem dX3_complain_37 : decode cX3_complain 37 = .ok (.iconst 0, 1) := by decide +kernel
theorem dX3_complain_38 : decode cX3_complain 38 = .ok (.istore 4, 2) := by decide +kernel
theorem dX3_complain_40 : decode cX3_complain 40 = .ok (.iload 4, 2) := by decide +kernel
theorem dX3_complain_42 : decode cX3_complain 42 = .ok (.aload_n 0, 1) := by decide +kernel
theorem dX3_complain_43 : decode cX3_complain 43 = .ok (.getfield 29, 3) := by decide +kernel
theorem dX3_complain_46 : decode cX3_complain 46 = .ok (.if_icmp .ge 52, 3) := by decide +kernel
theorem dX3_complain_49 : decode cX3_complain 49 = .ok (.aload_n 0, 1) := by decide +kernel
theorem dX3_complain_50 : decode cX3_complain 50 = .ok (.getfield 19, 3) := by decide +kernel
theorem dX3_complain_53 : decode cX3_complain 53 = .ok (.iload 4, 2) := by decide +kernel
theorem dX3_complain_55 : decode cX3_complain 55 = .ok (.aaload, 1) := by decide +kernel
theorem dX3_complain_56 : decode cX3_complain 56 = .ok (.iload_n 1, 1) := by decide +kernel
theorem dX3_complain_57 : decode cX3_complain 57 = .ok (.iload_n 2, 1) := by decide +kernel
theorem dX3_complain_58 : decode cX3_complain 58 = .ok (.invokevirtual 56, 3) := by decide +kernel
theorem dX3_complain_61 : decode cX3_complain 61 = .ok (.istore 5, 2) := by decide +kernel
theorem dX3_complain_63 : decode cX3_complain 63 = .ok (.iload 5, 2) := by decide +kernel
theorem dX3_complain_65 : decode cX3_complain 65 = .ok (.ifCond .le 27, 3) := by decide +kernel
theorem dX3_complain_68 : decode cX3_complain 68 = .ok (.iload 5, 2) := by decide +kernel
theorem dX3_complain_70 : decode cX3_complain 70 = .ok (.iload_n 3, 1) := by decide +kernel
theorem dX3_complain_71 : decode cX3_complain 71 = .ok (.iconst 1, 1) := by decide +kernel
theorem dX3_complain_72 : decode cX3_complain 72 = .ok (.isub, 1) := by decide +kernel
theorem dX3_complain_73 : decode cX3_complain 73 = .ok (.if_icmp .lt 19, 3) := by decide +kernel
theorem dX3_complain_76 : decode cX3_complain 76 = .ok (.aload_n 0, 1) := by decide +kernel
theorem dX3_complain_77 : decode cX3_complain 77 = .ok (.getfield 19, 3) := by decide +kernel
theorem dX3_complain_80 : decode cX3_complain 80 = .ok (.iload 4, 2) := by decide +kernel
theorem dX3_complain_82 : decode cX3_complain 82 = .ok (.aaload, 1) := by decide +kernel
theorem dX3_complain_83 : decode cX3_complain 83 = .ok (.getfield 126, 3) := by decide +kernel
theorem dX3_complain_86 : decode cX3_complain 86 = .ok (.iload_n 1, 1) := by decide +kernel
theorem dX3_complain_87 : decode cX3_complain 87 = .ok (.dup2, 1) := by decide +kernel
theorem dX3_complain_88 : decode cX3_complain 88 = .ok (.iaload, 1) := by decide +kernel
theorem dX3_complain_89 : decode cX3_complain 89 = .ok (.iconst 1, 1) := by decide +kernel
theorem dX3_complain_90 : decode cX3_complain 90 = .ok (.iadd, 1) := by decide +kernel
theorem dX3_complain_91 : decode cX3_complain 91 = .ok (.iastore, 1) := by decide +kernel
theorem dX3_complain_92 : decode cX3_complain 92 = .ok (.iinc 4 1, 3) := by decide +kernel
theorem dX3_complain_95 : decode cX3_complain 95 = .ok (.goto (-55), 3) := by decide +kernel
theorem dX3_complain_98 : decode cX3_complain 98 = .ok (.return_, 1) := by decide +kernel
set_option maxRecDepth 20000 in
theorem ggX3_tireEars_X3_isPlayed : GoodIn wsX3_tireEars wsX3_isPlayed := goodIn_r _ [6, 7, 8, 9, 10, 11, 12, 13, 14, 15, 16, 17, 18, 19, 20, 21, 35, 36, 37, 38, 39, 40, 41, 42, 43, 44, 45, 46, 47, 48, 49, 50, 51] (by decide +kernel) (by decide +kernel)
set_option maxRecDepth 20000 in
theorem gX3_tireEars_X3_isPlayed : GoodIn wsX3_tireEars (wsV RX3 129 RX3 yX3_isPlayed wsX3_isPlayed) := goodIn_app (goodIn_of _ (by decide +kernel)) ggX3_tireEars_X3_isPlayed
set_option maxRecDepth 20000 in
theorem ggX3_tireEars_X2_tire : GoodIn wsX3_tireEars wsX2_tire := goodIn_r _ [26, 27, 28, 29, 30, 31, 32, 33, 34, 52, 53, 54, 55, 56, 57] (by decide +kernel) (by decide +kernel)
set_option maxRecDepth 20000 in
theorem gX3_tireEars_X2_tire : GoodIn wsX3_tireEars (wsV RX3 133 RX2 yX2_tire wsX2_tire) := goodIn_app (goodIn_of _ (by decide +kernel)) ggX3_tireEars_X2_tire
theorem dX3_tireEars_0 : decode cX3_tireEars 0 = .ok (.iconst 0, 1) := by decide +kernel
theorem dX3_tireEars_1 : decode cX3_tireEars 1 = .ok (.istore_n 2, 1) := by decide +kernel
theorem dX3_tireEars_2 : decode cX3_tireEars 2 = .ok (.iload_n 2, 1) := by decide +kernel
theorem dX3_tireEars_3 : decode cX3_tireEars 3 = .ok (.bipush 6, 2) := by decide +kernel
theorem dX3_tireEars_5 : decode cX3_tireEars 5 = .ok (.if_icmp .ge 25, 3) := by decide +kernel
theorem dX3_tireEars_8 : decode cX3_tireEars 8 = .ok (.aload_n 0, 1) := by decide +kernel
theorem dX3_tireEars_9 : decode cX3_tireEars 9 = .ok (.getfield 11, 3) := by decide +kernel
theorem dX3_tireEars_12 : decode cX3_tireEars 12 = .ok (.iload_n 1, 1) := by decide +kernel
theorem dX3_tireEars_13 : decode cX3_tireEars 13 = .ok (.aaload, 1) := by decide +kernel
theorem dX3_tireEars_14 : decode cX3_tireEars 14 = .ok (.iload_n 2, 1) := by decide +kernel
theorem dX3_tireEars_15 : decode cX3_tireEars 15 = .ok (.aload_n 0, 1) := by decide +kernel
theorem dX3_tireEars_16 : decode cX3_tireEars 16 = .ok (.iload_n 1, 1) := by decide +kernel
theorem dX3_tireEars_17 : decode cX3_tireEars 17 = .ok (.iload_n 2, 1) := by decide +kernel
theorem dX3_tireEars_18 : decode cX3_tireEars 18 = .ok (.invokevirtual 129, 3) := by decide +kernel
theorem dX3_tireEars_21 : decode cX3_tireEars 21 = .ok (.invokevirtual 133, 3) := by decide +kernel
theorem dX3_tireEars_24 : decode cX3_tireEars 24 = .ok (.iinc 2 1, 3) := by decide +kernel
theorem dX3_tireEars_27 : decode cX3_tireEars 27 = .ok (.goto (-25), 3) := by decide +kernel
theorem dX3_tireEars_30 : decode cX3_tireEars 30 = .ok (.return_, 1) := by decide +kernel
set_option maxRecDepth 20000 in
theorem ggX3_isPlayed_X0_standsIn : GoodIn wsX3_isPlayed wsX0_standsIn := goodIn_r _ [7, 8, 9, 21, 22, 23, 24, 25, 26, 27, 28, 29, 30, 31, 32] (by decide +kernel) (by decide +kernel)
set_option maxRecDepth 20000 in
theorem gX3_isPlayed_X0_standsIn : GoodIn wsX3_isPlayed (wsV RX3 137 RX0 yX0_standsIn wsX0_standsIn) := goodIn_app (goodIn_of _ (by decide +kernel)) ggX3_isPlayed_X0_standsIn
set_option maxRecDepth 20000 in
theorem ggX3_isPlayed_X0_nextTune : GoodIn wsX3_isPlayed wsX0_nextTune := goodIn_r _ [13, 14, 15, 21, 22, 23, 24, 25, 26, 27, 28, 29, 30, 31, 32] (by decide +kernel) (by decide +kernel)
set_option maxRecDepth 20000 in
theorem gX3_isPlayed_X0_nextTune : GoodIn wsX3_isPlayed (wsV RX3 98 RX0 yX0_nextTune wsX0_nextTune) := goodIn_app (goodIn_of _ (by decide +kernel)) ggX3_isPlayed_X0_nextTune
theorem dX3_isPlayed_0 : decode cX3_isPlayed 0 = .ok (.iconst 0, 1) := by decide +kernel
theorem dX3_isPlayed_1 : decode cX3_isPlayed 1 = .ok (.istore_n 3, 1) := by decide +kernel
theorem dX3_isPlayed_2 : decode cX3_isPlayed 2 = .ok (.iload_n 3, 1) := by decide +kernel
theorem dX3_isPlayed_3 : decode cX3_isPlayed 3 = .ok (.aload_n 0, 1) := by decide +kernel
theorem dX3_isPlayed_4 : decode cX3_isPlayed 4 = .ok (.getfield 29, 3) := by decide +kernel
theorem dX3_isPlayed_7 : decode cX3_isPlayed 7 = .ok (.if_icmp .ge 37, 3) := by decide +kernel
theorem dX3_isPlayed_10 : decode cX3_isPlayed 10 = .ok (.aload_n 0, 1) := by decide +kernel
theorem dX3_isPlayed_11 : decode cX3_isPlayed 11 = .ok (.getfield 19, 3) := by decide +kernel
theorem dX3_isPlayed_14 : decode cX3_isPlayed 14 = .ok (.iload_n 3, 1) := by decide +kernel
theorem dX3_isPlayed_15 : decode cX3_isPlayed 15 = .ok (.aaload, 1) := by decide +kernel
theorem dX3_isPlayed_16 : decode cX3_isPlayed 16 = .ok (.iload_n 1, 1) := by decide +kernel
theorem dX3_isPlayed_17 : decode cX3_isPlayed 17 = .ok (.invokevirtual 137, 3) := by decide +kernel
theorem dX3_isPlayed_20 : decode cX3_isPlayed 20 = .ok (.ifCond .eq 18, 3) := by decide +kernel
theorem dX3_isPlayed_23 : decode cX3_isPlayed 23 = .ok (.aload_n 0, 1) := by decide +kernel
theorem dX3_isPlayed_24 : decode cX3_isPlayed 24 = .ok (.getfield 19, 3) := by decide +kernel
theorem dX3_isPlayed_27 : decode cX3_isPlayed 27 = .ok (.iload_n 3, 1) := by decide +kernel
theorem dX3_isPlayed_28 : decode cX3_isPlayed 28 = .ok (.aaload, 1) := by decide +kernel
theorem dX3_isPlayed_29 : decode cX3_isPlayed 29 = .ok (.invokevirtual 98, 3) := by decide +kernel
theorem dX3_isPlayed_32 : decode cX3_isPlayed 32 = .ok (.iload_n 2, 1) := by decide +kernel
theorem dX3_isPlayed_33 : decode cX3_isPlayed 33 = .ok (.if_icmp .ne 5, 3) := by decide +kernel
theorem dX3_isPlayed_36 : decode cX3_isPlayed 36 = .ok (.iconst 1, 1) := by decide +kernel
theorem dX3_isPlayed_37 : decode cX3_isPlayed 37 = .ok (.ireturn, 1) := by decide +kernel
theorem dX3_isPlayed_38 : decode cX3_isPlayed 38 = .ok (.iinc 3 1, 3) := by decide +kernel
theorem dX3_isPlayed_41 : decode cX3_isPlayed 41 = .ok (.goto (-39), 3) := by decide +kernel
theorem dX3_isPlayed_44 : decode cX3_isPlayed 44 = .ok (.iconst 0, 1) := by decide +kernel
theorem dX3_isPlayed_45 : decode cX3_isPlayed 45 = .ok (.ireturn, 1) := by decide +kernel
set_option maxRecDepth 20000 in
theorem ggX3_turnBarrels_X0_turn : GoodIn wsX3_turnBarrels wsX0_turn := goodIn_r _ [8, 9, 10, 11, 12, 13, 14, 15, 16, 17, 18, 7, 19, 20, 26, 27, 28, 29, 30, 31, 32, 33, 34, 35, 36, 37] (by decide +kernel) (by decide +kernel)
set_option maxRecDepth 20000 in
theorem gX3_turnBarrels_X0_turn : GoodIn wsX3_turnBarrels (wsV RX3 144 RX0 yX0_turn wsX0_turn) := goodIn_app (goodIn_of _ (by decide +kernel)) ggX3_turnBarrels_X0_turn
theorem dX3_turnBarrels_0 : decode cX3_turnBarrels 0 = .ok (.iconst 0, 1) := by decide +kernel
theorem dX3_turnBarrels_1 : decode cX3_turnBarrels 1 = .ok (.istore_n 1, 1) := by decide +kernel
theorem dX3_turnBarrels_2 : decode cX3_turnBarrels 2 = .ok (.iload_n 1, 1) := by decide +kernel
theorem dX3_turnBarrels_3 : decode cX3_turnBarrels 3 = .ok (.aload_n 0, 1) := by decide +kernel
theorem dX3_turnBarrels_4 : decode cX3_turnBarrels 4 = .ok (.getfield 29, 3) := by decide +kernel
theorem dX3_turnBarrels_7 : decode cX3_turnBarrels 7 = .ok (.if_icmp .ge 30, 3) := by decide +kernel
theorem dX3_turnBarrels_10 : decode cX3_turnBarrels 10 = .ok (.aload_n 0, 1) := by decide +kernel
theorem dX3_turnBarrels_11 : decode cX3_turnBarrels 11 = .ok (.getfield 19, 3) := by decide +kernel
theorem dX3_turnBarrels_14 : decode cX3_turnBarrels 14 = .ok (.iload_n 1, 1) := by decide +kernel
theorem dX3_turnBarrels_15 : decode cX3_turnBarrels 15 = .ok (.aaload, 1) := by decide +kernel
theorem dX3_turnBarrels_16 : decode cX3_turnBarrels 16 = .ok (.getfield 141, 3) := by decide +kernel
theorem dX3_turnBarrels_19 : decode cX3_turnBarrels 19 = .ok (.ifCond .ne 12, 3) := by decide +kernel
theorem dX3_turnBarrels_22 : decode cX3_turnBarrels 22 = .ok (.aload_n 0, 1) := by decide +kernel
theorem dX3_turnBarrels_23 : decode cX3_turnBarrels 23 = .ok (.getfield 19, 3) := by decide +kernel
theorem dX3_turnBarrels_26 : decode cX3_turnBarrels 26 = .ok (.iload_n 1, 1) := by decide +kernel
theorem dX3_turnBarrels_27 : decode cX3_turnBarrels 27 = .ok (.aaload, 1) := by decide +kernel
theorem dX3_turnBarrels_28 : decode cX3_turnBarrels 28 = .ok (.invokevirtual 144, 3) := by decide +kernel
theorem dX3_turnBarrels_31 : decode cX3_turnBarrels 31 = .ok (.iinc 1 1, 3) := by decide +kernel
theorem dX3_turnBarrels_34 : decode cX3_turnBarrels 34 = .ok (.goto (-32), 3) := by decide +kernel
theorem dX3_turnBarrels_37 : decode cX3_turnBarrels 37 = .ok (.return_, 1) := by decide +kernel
set_option maxRecDepth 20000 in
theorem ggX3_callConstables_X3_complaintsIn : GoodIn wsX3_callConstables wsX3_complaintsIn := goodIn_r _ [8, 1, 2, 3, 33, 34, 35, 36, 37, 38, 39, 40, 41, 42, 43, 44, 45, 46, 47, 48, 49] (by decide +kernel) (by decide +kernel)
set_option maxRecDepth 20000 in
theorem gX3_callConstables_X3_complaintsIn : GoodIn wsX3_callConstables (wsV RX3 147 RX3 yX3_complaintsIn wsX3_complaintsIn) := goodIn_app (goodIn_of _ (by decide +kernel)) ggX3_callConstables_X3_complaintsIn
set_option maxRecDepth 20000 in
theorem ggX3_callConstables_X3_banish : GoodIn wsX3_callConstables wsX3_banish := goodIn_r _ [12, 13, 14, 15, 16, 17, 18, 19, 20, 21, 22, 23, 24, 25, 7, 26, 27, 28, 29, 30, 31, 32, 38, 39, 40, 41, 42, 43, 44, 45, 46, 47, 48, 49, 33, 34, 35, 36, 37, 50, 51, 52, 53, 54, 55] (by decide +kernel) (by decide +kernel)
set_option maxRecDepth 20000 in
theorem gX3_callConstables_X3_banish : GoodIn wsX3_callConstables (wsV RX3 150 RX3 yX3_banish wsX3_banish) := goodIn_app (goodIn_of _ (by decide +kernel)) ggX3_callConstables_X3_banish
theorem dX3_callConstables_0 : decode cX3_callConstables 0 = .ok (.aload_n 0, 1) := by decide +kernel
theorem dX3_callConstables_1 : decode cX3_callConstables 1 = .ok (.iload_n 1, 1) := by decide +kernel
theorem dX3_callConstables_2 : decode cX3_callConstables 2 = .ok (.invokevirtual 147, 3) := by decide +kernel
theorem dX3_callConstables_5 : decode cX3_callConstables 5 = .ok (.bipush 10, 2) := by decide +kernel
theorem dX3_callConstables_7 : decode cX3_callConstables 7 = .ok (.if_icmp .ge 4, 3) := by decide +kernel
theorem dX3_callConstables_10 : decode cX3_callConstables 10 = .ok (.return_, 1) := by decide +kernel
theorem dX3_callConstables_11 : decode cX3_callConstables 11 = .ok (.iconst 0, 1) := by decide +kernel
theorem dX3_callConstables_12 : decode cX3_callConstables 12 = .ok (.istore_n 2, 1) := by decide +kernel
theorem dX3_callConstables_13 : decode cX3_callConstables 13 = .ok (.iconst 1, 1) := by decide +kernel
theorem dX3_callConstables_14 : decode cX3_callConstables 14 = .ok (.istore_n 3, 1) := by decide +kernel
theorem dX3_callConstables_15 : decode cX3_callConstables 15 = .ok (.iload_n 3, 1) := by decide +kernel
theorem dX3_callConstables_16 : decode cX3_callConstables 16 = .ok (.aload_n 0, 1) := by decide +kernel
theorem dX3_callConstables_17 : decode cX3_callConstables 17 = .ok (.getfield 29, 3) := by decide +kernel
theorem dX3_callConstables_20 : decode cX3_callConstables 20 = .ok (.if_icmp .ge 36, 3) := by decide +kernel
theorem dX3_callConstables_23 : decode cX3_callConstables 23 = .ok (.aload_n 0, 1) := by decide +kernel
theorem dX3_callConstables_24 : decode cX3_callConstables 24 = .ok (.getfield 19, 3) := by decide +kernel
theorem dX3_callConstables_27 : decode cX3_callConstables 27 = .ok (.iload_n 3, 1) := by decide +kernel
theorem dX3_callConstables_28 : decode cX3_callConstables 28 = .ok (.aaload, 1) := by decide +kernel
theorem dX3_callConstables_29 : decode cX3_callConstables 29 = .ok (.getfield 126, 3) := by decide +kernel
theorem dX3_callConstables_32 : decode cX3_callConstables 32 = .ok (.iload_n 1, 1) := by decide +kernel
theorem dX3_callConstables_33 : decode cX3_callConstables 33 = .ok (.iaload, 1) := by decide +kernel
theorem dX3_callConstables_34 : decode cX3_callConstables 34 = .ok (.aload_n 0, 1) := by decide +kernel
theorem dX3_callConstables_35 : decode cX3_callConstables 35 = .ok (.getfield 19, 3) := by decide +kernel
theorem dX3_callConstables_38 : decode cX3_callConstables 38 = .ok (.iload_n 2, 1) := by decide +kernel
theorem dX3_callConstables_39 : decode cX3_callConstables 39 = .ok (.aaload, 1) := by decide +kernel
theorem dX3_callConstables_40 : decode cX3_callConstables 40 = .ok (.getfield 126, 3) := by decide +kernel
theorem dX3_callConstables_43 : decode cX3_callConstables 43 = .ok (.iload_n 1, 1) := by decide +kernel
theorem dX3_callConstables_44 : decode cX3_callConstables 44 = .ok (.iaload, 1) := by decide +kernel
theorem dX3_callConstables_45 : decode cX3_callConstables 45 = .ok (.if_icmp .le 5, 3) := by decide +kernel
theorem dX3_callConstables_48 : decode cX3_callConstables 48 = .ok (.iload_n 3, 1) := by decide +kernel
theorem dX3_callConstables_49 : decode cX3_callConstables 49 = .ok (.istore_n 2, 1) := by decide +kernel
theorem dX3_callConstables_50 : decode cX3_callConstables 50 = .ok (.iinc 3 1, 3) := by decide +kernel
theorem dX3_callConstables_53 : decode cX3_callConstables 53 = .ok (.goto (-38), 3) := by decide +kernel
theorem dX3_callConstables_56 : decode cX3_callConstables 56 = .ok (.aload_n 0, 1) := by decide +kernel
theorem dX3_callConstables_57 : decode cX3_callConstables 57 = .ok (.aload_n 0, 1) := by decide +kernel
theorem dX3_callConstables_58 : decode cX3_callConstables 58 = .ok (.getfield 19, 3) := by decide +kernel
theorem dX3_callConstables_61 : decode cX3_callConstables 61 = .ok (.iload_n 2, 1) := by decide +kernel
theorem dX3_callConstables_62 : decode cX3_callConstables 62 = .ok (.aaload, 1) := by decide +kernel
theorem dX3_callConstables_63 : decode cX3_callConstables 63 = .ok (.iload_n 1, 1) := by decide +kernel
theorem dX3_callConstables_64 : decode cX3_callConstables 64 = .ok (.invokevirtual 150, 3) := by decide +kernel
theorem dX3_callConstables_67 : decode cX3_callConstables 67 = .ok (.iconst 0, 1) := by decide +kernel
theorem dX3_callConstables_68 : decode cX3_callConstables 68 = .ok (.istore_n 3, 1) := by decide +kernel
theorem dX3_callConstables_69 : decode cX3_callConstables 69 = .ok (.iload_n 3, 1) := by decide +kernel
theorem dX3_callConstables_70 : decode cX3_callConstables 70 = .ok (.aload_n 0, 1) := by decide +kernel
theorem dX3_callConstables_71 : decode cX3_callConstables 71 = .ok (.getfield 29, 3) := by decide +kernel
theorem dX3_callConstables_74 : decode cX3_callConstables 74 = .ok (.if_icmp .ge 21, 3) := by decide +kernel
theorem dX3_callConstables_77 : decode cX3_callConstables 77 = .ok (.aload_n 0, 1) := by decide +kernel
theorem dX3_callConstables_78 : decode cX3_callConstables 78 = .ok (.getfield 19, 3) := by decide +kernel
theorem dX3_callConstables_81 : decode cX3_callConstables 81 = .ok (.iload_n 3, 1) := by decide +kernel
theorem dX3_callConstables_82 : decode cX3_callConstables 82 = .ok (.aaload, 1) := by decide +kernel
theorem dX3_callConstables_83 : decode cX3_callConstables 83 = .ok (.getfield 126, 3) := by decide +kernel
theorem dX3_callConstables_86 : decode cX3_callConstables 86 = .ok (.iload_n 1, 1) := by decide +kernel
theorem dX3_callConstables_87 : decode cX3_callConstables 87 = .ok (.iconst 0, 1) := by decide +kernel
theorem dX3_callConstables_88 : decode cX3_callConstables 88 = .ok (.iastore, 1) := by decide +kernel
theorem dX3_callConstables_89 : decode cX3_callConstables 89 = .ok (.iinc 3 1, 3) := by decide +kernel
theorem dX3_callConstables_92 : decode cX3_callConstables 92 = .ok (.goto (-23), 3) := by decide +kernel
theorem dX3_callConstables_95 : decode cX3_callConstables 95 = .ok (.return_, 1) := by decide +kernel
set_option maxRecDepth 20000 in
theorem ggX3_banish_X0_standsIn : GoodIn wsX3_banish wsX0_standsIn := goodIn_r _ [8, 9, 10, 22, 23, 24, 25, 26, 27, 28, 29, 30, 31, 32, 33] (by decide +kernel) (by decide +kernel)
set_option maxRecDepth 20000 in
theorem gX3_banish_X0_standsIn : GoodIn wsX3_banish (wsV RX3 137 RX0 yX0_standsIn wsX0_standsIn) := goodIn_app (goodIn_of _ (by decide +kernel)) ggX3_banish_X0_standsIn
set_option maxRecDepth 20000 in
theorem ggX3_banish_X3_refugeFrom : GoodIn wsX3_banish wsX3_refugeFrom := goodIn_r _ [15, 16, 1, 34, 35, 36, 37, 38, 22, 23, 24, 25, 26, 27, 28, 29, 30, 31, 32, 33] (by decide +kernel) (by decide +kernel)
set_option maxRecDepth 20000 in
theorem gX3_banish_X3_refugeFrom : GoodIn wsX3_banish (wsV RX3 160 RX3 yX3_refugeFrom wsX3_refugeFrom) := goodIn_app (goodIn_of _ (by decide +kernel)) ggX3_banish_X3_refugeFrom
set_option maxRecDepth 20000 in
theorem ggX3_banish_X0_moveTo : GoodIn wsX3_banish wsX0_moveTo := goodIn_r _ [20, 10, 21, 9, 22, 23, 24, 25, 26, 27, 28, 29, 30, 31, 32, 33] (by decide +kernel) (by decide +kernel)
set_option maxRecDepth 20000 in
theorem gX3_banish_X0_moveTo : GoodIn wsX3_banish (wsV RX3 45 RX0 yX0_moveTo wsX0_moveTo) := goodIn_app (goodIn_of _ (by decide +kernel)) ggX3_banish_X0_moveTo
theorem dX3_banish_0 : decode cX3_banish 0 = .ok (.aload_n 1, 1) := by decide +kernel
theorem dX3_banish_1 : decode cX3_banish 1 = .ok (.getfield 154, 3) := by decide +kernel
theorem dX3_banish_4 : decode cX3_banish 4 = .ok (.iload_n 2, 1) := by decide +kernel
theorem dX3_banish_5 : decode cX3_banish 5 = .ok (.bipush 25, 2) := by decide +kernel
theorem dX3_banish_7 : decode cX3_banish 7 = .ok (.iastore, 1) := by decide +kernel
theorem dX3_banish_8 : decode cX3_banish 8 = .ok (.aload_n 0, 1) := by decide +kernel
theorem dX3_banish_9 : decode cX3_banish 9 = .ok (.getfield 11, 3) := by decide +kernel
theorem dX3_banish_12 : decode cX3_banish 12 = .ok (.iload_n 2, 1) := by decide +kernel
theorem dX3_banish_13 : decode cX3_banish 13 = .ok (.aaload, 1) := by decide +kernel
theorem dX3_banish_14 : decode cX3_banish 14 = .ok (.dup, 1) := by decide +kernel
theorem dX3_banish_15 : decode cX3_banish 15 = .ok (.getfield 157, 3) := by decide +kernel
theorem dX3_banish_18 : decode cX3_banish 18 = .ok (.iconst 1, 1) := by decide +kernel
theorem dX3_banish_19 : decode cX3_banish 19 = .ok (.iadd, 1) := by decide +kernel
theorem dX3_banish_20 : decode cX3_banish 20 = .ok (.putfield 157, 3) := by decide +kernel
theorem dX3_banish_23 : decode cX3_banish 23 = .ok (.aload_n 1, 1) := by decide +kernel
theorem dX3_banish_24 : decode cX3_banish 24 = .ok (.iload_n 2, 1) := by decide +kernel
theorem dX3_banish_25 : decode cX3_banish 25 = .ok (.invokevirtual 137, 3) := by decide +kernel
theorem dX3_banish_28 : decode cX3_banish 28 = .ok (.ifCond .eq 15, 3) := by decide +kernel
theorem dX3_banish_31 : decode cX3_banish 31 = .ok (.aload_n 1, 1) := by decide +kernel
theorem dX3_banish_32 : decode cX3_banish 32 = .ok (.aload_n 0, 1) := by decide +kernel
theorem dX3_banish_33 : decode cX3_banish 33 = .ok (.aload_n 1, 1) := by decide +kernel
theorem dX3_banish_34 : decode cX3_banish 34 = .ok (.iload_n 2, 1) := by decide +kernel
theorem dX3_banish_35 : decode cX3_banish 35 = .ok (.invokevirtual 160, 3) := by decide +kernel
theorem dX3_banish_38 : decode cX3_banish 38 = .ok (.iconst 0, 1) := by decide +kernel
theorem dX3_banish_39 : decode cX3_banish 39 = .ok (.iconst 3, 1) := by decide +kernel
theorem dX3_banish_40 : decode cX3_banish 40 = .ok (.invokevirtual 45, 3) := by decide +kernel
theorem dX3_banish_43 : decode cX3_banish 43 = .ok (.return_, 1) := by decide +kernel
theorem dX3_refugeFrom_0 : decode cX3_refugeFrom 0 = .ok (.iload_n 2, 1) := by decide +kernel
theorem dX3_refugeFrom_1 : decode cX3_refugeFrom 1 = .ok (.istore_n 3, 1) := by decide +kernel
theorem dX3_refugeFrom_2 : decode cX3_refugeFrom 2 = .ok (.iconst 1, 1) := by decide +kernel
theorem dX3_refugeFrom_3 : decode cX3_refugeFrom 3 = .ok (.istore 4, 2) := by decide +kernel
theorem dX3_refugeFrom_5 : decode cX3_refugeFrom 5 = .ok (.iload 4, 2) := by decide +kernel
theorem dX3_refugeFrom_7 : decode cX3_refugeFrom 7 = .ok (.aload_n 0, 1) := by decide +kernel
theorem dX3_refugeFrom_8 : decode cX3_refugeFrom 8 = .ok (.getfield 25, 3) := by decide +kernel
theorem dX3_refugeFrom_11 : decode cX3_refugeFrom 11 = .ok (.if_icmp .ge 38, 3) := by decide +kernel
theorem dX3_refugeFrom_14 : decode cX3_refugeFrom 14 = .ok (.iload_n 3, 1) := by decide +kernel
theorem dX3_refugeFrom_15 : decode cX3_refugeFrom 15 = .ok (.iconst 1, 1) := by decide +kernel
theorem dX3_refugeFrom_16 : decode cX3_refugeFrom 16 = .ok (.iadd, 1) := by decide +kernel
theorem dX3_refugeFrom_17 : decode cX3_refugeFrom 17 = .ok (.aload_n 0, 1) := by decide +kernel
theorem dX3_refugeFrom_18 : decode cX3_refugeFrom 18 = .ok (.getfield 25, 3) := by decide +kernel
theorem dX3_refugeFrom_21 : decode cX3_refugeFrom 21 = .ok (.if_icmp .ge 9, 3) := by decide +kernel
theorem dX3_refugeFrom_24 : decode cX3_refugeFrom 24 = .ok (.iload_n 3, 1) := by decide +kernel
theorem dX3_refugeFrom_25 : decode cX3_refugeFrom 25 = .ok (.iconst 1, 1) := by decide +kernel
theorem dX3_refugeFrom_26 : decode cX3_refugeFrom 26 = .ok (.iadd, 1) := by decide +kernel
theorem dX3_refugeFrom_27 : decode cX3_refugeFrom 27 = .ok (.goto 4, 3) := by decide +kernel
theorem dX3_refugeFrom_30 : decode cX3_refugeFrom 30 = .ok (.iconst 0, 1) := by decide +kernel
theorem dX3_refugeFrom_31 : decode cX3_refugeFrom 31 = .ok (.istore_n 3, 1) := by decide +kernel
theorem dX3_refugeFrom_32 : decode cX3_refugeFrom 32 = .ok (.aload_n 1, 1) := by decide +kernel
theorem dX3_refugeFrom_33 : decode cX3_refugeFrom 33 = .ok (.getfield 154, 3) := by decide +kernel
theorem dX3_refugeFrom_36 : decode cX3_refugeFrom 36 = .ok (.iload_n 3, 1) := by decide +kernel
theorem dX3_refugeFrom_37 : decode cX3_refugeFrom 37 = .ok (.iaload, 1) := by decide +kernel
theorem dX3_refugeFrom_38 : decode cX3_refugeFrom 38 = .ok (.ifCond .ne 5, 3) := by decide +kernel
theorem dX3_refugeFrom_41 : decode cX3_refugeFrom 41 = .ok (.iload_n 3, 1) := by decide +kernel
theorem dX3_refugeFrom_42 : decode cX3_refugeFrom 42 = .ok (.ireturn, 1) := by decide +kernel
theorem dX3_refugeFrom_43 : decode cX3_refugeFrom 43 = .ok (.iinc 4 1, 3) := by decide +kernel
theorem dX3_refugeFrom_46 : decode cX3_refugeFrom 46 = .ok (.goto (-41), 3) := by decide +kernel
theorem dX3_refugeFrom_49 : decode cX3_refugeFrom 49 = .ok (.iload_n 2, 1) := by decide +kernel
theorem dX3_refugeFrom_50 : decode cX3_refugeFrom 50 = .ok (.ireturn, 1) := by decide +kernel
set_option maxRecDepth 20000 in
theorem ggX3_standingIn_X0_standsIn : GoodIn wsX3_standingIn wsX0_standsIn := goodIn_r _ [7, 8, 9, 15, 16, 17, 18, 19, 20, 21, 22, 23, 24, 25, 26] (by decide +kernel) (by decide +kernel)
set_option maxRecDepth 20000 in
theorem gX3_standingIn_X0_standsIn : GoodIn wsX3_standingIn (wsV RX3 137 RX0 yX0_standsIn wsX0_standsIn) := goodIn_app (goodIn_of _ (by decide +kernel)) ggX3_standingIn_X0_standsIn
theorem dX3_standingIn_0 : decode cX3_standingIn 0 = .ok (.iconst 0, 1) := by decide +kernel
theorem dX3_standingIn_1 : decode cX3_standingIn 1 = .ok (.istore_n 2, 1) := by decide +kernel
theorem dX3_standingIn_2 : decode cX3_standingIn 2 = .ok (.iconst 0, 1) := by decide +kernel
theorem dX3_standingIn_3 : decode cX3_standingIn 3 = .ok (.istore_n 3, 1) := by decide +kernel
theorem dX3_standingIn_4 : decode cX3_standingIn 4 = .ok (.iload_n 3, 1) := by decide +kernel
theorem dX3_standingIn_5 : decode cX3_standingIn 5 = .ok (.aload_n 0, 1) := by decide +kernel
theorem dX3_standingIn_6 : decode cX3_standingIn 6 = .ok (.getfield 29, 3) := by decide +kernel
theorem dX3_standingIn_9 : decode cX3_standingIn 9 = .ok (.if_icmp .ge 25, 3) := by decide +kernel
theorem dX3_standingIn_12 : decode cX3_standingIn 12 = .ok (.aload_n 0, 1) := by decide +kernel
theorem dX3_standingIn_13 : decode cX3_standingIn 13 = .ok (.getfield 19, 3) := by decide +kernel
theorem dX3_standingIn_16 : decode cX3_standingIn 16 = .ok (.iload_n 3, 1) := by decide +kernel
theorem dX3_standingIn_17 : decode cX3_standingIn 17 = .ok (.aaload, 1) := by decide +kernel
theorem dX3_standingIn_18 : decode cX3_standingIn 18 = .ok (.iload_n 1, 1) := by decide +kernel
theorem dX3_standingIn_19 : decode cX3_standingIn 19 = .ok (.invokevirtual 137, 3) := by decide +kernel
theorem dX3_standingIn_22 : decode cX3_standingIn 22 = .ok (.ifCond .eq 6, 3) := by decide +kernel
theorem dX3_standingIn_25 : decode cX3_standingIn 25 = .ok (.iinc 2 1, 3) := by decide +kernel
theorem dX3_standingIn_28 : decode cX3_standingIn 28 = .ok (.iinc 3 1, 3) := by decide +kernel
theorem dX3_standingIn_31 : decode cX3_standingIn 31 = .ok (.goto (-27), 3) := by decide +kernel
theorem dX3_standingIn_34 : decode cX3_standingIn 34 = .ok (.iload_n 2, 1) := by decide +kernel
theorem dX3_standingIn_35 : decode cX3_standingIn 35 = .ok (.ireturn, 1) := by decide +kernel
theorem dX3_complaintsIn_0 : decode cX3_complaintsIn 0 = .ok (.iconst 0, 1) := by decide +kernel
theorem dX3_complaintsIn_1 : decode cX3_complaintsIn 1 = .ok (.istore_n 2, 1) := by decide +kernel
theorem dX3_complaintsIn_2 : decode cX3_complaintsIn 2 = .ok (.iconst 0, 1) := by decide +kernel
theorem dX3_complaintsIn_3 : decode cX3_complaintsIn 3 = .ok (.istore_n 3, 1) := by decide +kernel
theorem dX3_complaintsIn_4 : decode cX3_complaintsIn 4 = .ok (.iload_n 3, 1) := by decide +kernel
theorem dX3_complaintsIn_5 : decode cX3_complaintsIn 5 = .ok (.aload_n 0, 1) := by decide +kernel
theorem dX3_complaintsIn_6 : decode cX3_complaintsIn 6 = .ok (.getfield 29, 3) := by decide +kernel
theorem dX3_complaintsIn_9 : decode cX3_complaintsIn 9 = .ok (.if_icmp .ge 23, 3) := by decide +kernel
theorem dX3_complaintsIn_12 : decode cX3_complaintsIn 12 = .ok (.iload_n 2, 1) := by decide +kernel
theorem dX3_complaintsIn_13 : decode cX3_complaintsIn 13 = .ok (.aload_n 0, 1) := by decide +kernel
theorem dX3_complaintsIn_14 : decode cX3_complaintsIn 14 = .ok (.getfield 19, 3) := by decide +kernel
theorem dX3_complaintsIn_17 : decode cX3_complaintsIn 17 = .ok (.iload_n 3, 1) := by decide +kernel
theorem dX3_complaintsIn_18 : decode cX3_complaintsIn 18 = .ok (.aaload, 1) := by decide +kernel
theorem dX3_complaintsIn_19 : decode cX3_complaintsIn 19 = .ok (.getfield 126, 3) := by decide +kernel
theorem dX3_complaintsIn_22 : decode cX3_complaintsIn 22 = .ok (.iload_n 1, 1) := by decide +kernel
theorem dX3_complaintsIn_23 : decode cX3_complaintsIn 23 = .ok (.iaload, 1) := by decide +kernel
theorem dX3_complaintsIn_24 : decode cX3_complaintsIn 24 = .ok (.iadd, 1) := by decide +kernel
theorem dX3_complaintsIn_25 : decode cX3_complaintsIn 25 = .ok (.istore_n 2, 1) := by decide +kernel
theorem dX3_complaintsIn_26 : decode cX3_complaintsIn 26 = .ok (.iinc 3 1, 3) := by decide +kernel
theorem dX3_complaintsIn_29 : decode cX3_complaintsIn 29 = .ok (.goto (-25), 3) := by decide +kernel
theorem dX3_complaintsIn_32 : decode cX3_complaintsIn 32 = .ok (.iload_n 2, 1) := by decide +kernel
theorem dX3_complaintsIn_33 : decode cX3_complaintsIn 33 = .ok (.ireturn, 1) := by decide +kernel
set_option maxRecDepth 20000 in
theorem ggX3_drownedPitches_X3_whoIsHeard : GoodIn wsX3_drownedPitches wsX3_whoIsHeard := goodIn_r _ [7, 8, 9, 10, 11, 12, 13, 14, 15, 16, 17, 18, 19, 20, 21, 22, 23, 24, 25, 26, 27, 28, 29, 30, 31, 32, 33, 34, 41, 42, 43, 44, 45, 46, 47, 48, 49, 50, 51, 52] (by decide +kernel) (by decide +kernel)
set_option maxRecDepth 20000 in
theorem gX3_drownedPitches_X3_whoIsHeard : GoodIn wsX3_drownedPitches (wsV RX3 86 RX3 yX3_whoIsHeard wsX3_whoIsHeard) := goodIn_app (goodIn_of _ (by decide +kernel)) ggX3_drownedPitches_X3_whoIsHeard
theorem dX3_drownedPitches_0 : decode cX3_drownedPitches 0 = .ok (.iconst 0, 1) := by decide +kernel
theorem dX3_drownedPitches_1 : decode cX3_drownedPitches 1 = .ok (.istore_n 2, 1) := by decide +kernel
theorem dX3_drownedPitches_2 : decode cX3_drownedPitches 2 = .ok (.iconst 0, 1) := by decide +kernel
theorem dX3_drownedPitches_3 : decode cX3_drownedPitches 3 = .ok (.istore_n 3, 1) := by decide +kernel
theorem dX3_drownedPitches_4 : decode cX3_drownedPitches 4 = .ok (.iload_n 3, 1) := by decide +kernel
theorem dX3_drownedPitches_5 : decode cX3_drownedPitches 5 = .ok (.aload_n 0, 1) := by decide +kernel
theorem dX3_drownedPitches_6 : decode cX3_drownedPitches 6 = .ok (.getfield 11, 3) := by decide +kernel
theorem dX3_drownedPitches_9 : decode cX3_drownedPitches 9 = .ok (.iload_n 1, 1) := by decide +kernel
theorem dX3_drownedPitches_10 : decode cX3_drownedPitches 10 = .ok (.aaload, 1) := by decide +kernel
theorem dX3_drownedPitches_11 : decode cX3_drownedPitches 11 = .ok (.getfield 42, 3) := by decide +kernel
theorem dX3_drownedPitches_14 : decode cX3_drownedPitches 14 = .ok (.if_icmp .ge 23, 3) := by decide +kernel
theorem dX3_drownedPitches_17 : decode cX3_drownedPitches 17 = .ok (.aload_n 0, 1) := by decide +kernel
theorem dX3_drownedPitches_18 : decode cX3_drownedPitches 18 = .ok (.iload_n 1, 1) := by decide +kernel
theorem dX3_drownedPitches_19 : decode cX3_drownedPitches 19 = .ok (.iload_n 3, 1) := by decide +kernel
theorem dX3_drownedPitches_20 : decode cX3_drownedPitches 20 = .ok (.invokevirtual 86, 3) := by decide +kernel
theorem dX3_drownedPitches_23 : decode cX3_drownedPitches 23 = .ok (.bipush (-2), 2) := by decide +kernel
theorem dX3_drownedPitches_25 : decode cX3_drownedPitches 25 = .ok (.if_icmp .ne 6, 3) := by decide +kernel
theorem dX3_drownedPitches_28 : decode cX3_drownedPitches 28 = .ok (.iinc 2 1, 3) := by decide +kernel
theorem dX3_drownedPitches_31 : decode cX3_drownedPitches 31 = .ok (.iinc 3 1, 3) := by decide +kernel
theorem dX3_drownedPitches_34 : decode cX3_drownedPitches 34 = .ok (.goto (-30), 3) := by decide +kernel
theorem dX3_drownedPitches_37 : decode cX3_drownedPitches 37 = .ok (.iload_n 2, 1) := by decide +kernel
theorem dX3_drownedPitches_38 : decode cX3_drownedPitches 38 = .ok (.ireturn, 1) := by decide +kernel
set_option maxRecDepth 20000 in
theorem ggX3_heardPitches_X3_whoIsHeard : GoodIn wsX3_heardPitches wsX3_whoIsHeard := goodIn_r _ [7, 8, 9, 10, 11, 12, 13, 14, 15, 16, 17, 18, 19, 20, 21, 22, 23, 24, 25, 26, 27, 28, 29, 30, 31, 32, 33, 34, 41, 42, 43, 44, 45, 46, 47, 48, 49, 50, 51, 52] (by decide +kernel) (by decide +kernel)
set_option maxRecDepth 20000 in
theorem gX3_heardPitches_X3_whoIsHeard : GoodIn wsX3_heardPitches (wsV RX3 86 RX3 yX3_whoIsHeard wsX3_whoIsHeard) := goodIn_app (goodIn_of _ (by decide +kernel)) ggX3_heardPitches_X3_whoIsHeard
theorem dX3_heardPitches_0 : decode cX3_heardPitches 0 = .ok (.iconst 0, 1) := by decide +kernel
theorem dX3_heardPitches_1 : decode cX3_heardPitches 1 = .ok (.istore_n 2, 1) := by decide +kernel
theorem dX3_heardPitches_2 : decode cX3_heardPitches 2 = .ok (.iconst 0, 1) := by decide +kernel
theorem dX3_heardPitches_3 : decode cX3_heardPitches 3 = .ok (.istore_n 3, 1) := by decide +kernel
theorem dX3_heardPitches_4 : decode cX3_heardPitches 4 = .ok (.iload_n 3, 1) := by decide +kernel
theorem dX3_heardPitches_5 : decode cX3_heardPitches 5 = .ok (.aload_n 0, 1) := by decide +kernel
theorem dX3_heardPitches_6 : decode cX3_heardPitches 6 = .ok (.getfield 11, 3) := by decide +kernel
theorem dX3_heardPitches_9 : decode cX3_heardPitches 9 = .ok (.iload_n 1, 1) := by decide +kernel
theorem dX3_heardPitches_10 : decode cX3_heardPitches 10 = .ok (.aaload, 1) := by decide +kernel
theorem dX3_heardPitches_11 : decode cX3_heardPitches 11 = .ok (.getfield 42, 3) := by decide +kernel
theorem dX3_heardPitches_14 : decode cX3_heardPitches 14 = .ok (.if_icmp .ge 21, 3) := by decide +kernel
theorem dX3_heardPitches_17 : decode cX3_heardPitches 17 = .ok (.aload_n 0, 1) := by decide +kernel
theorem dX3_heardPitches_18 : decode cX3_heardPitches 18 = .ok (.iload_n 1, 1) := by decide +kernel
theorem dX3_heardPitches_19 : decode cX3_heardPitches 19 = .ok (.iload_n 3, 1) := by decide +kernel
theorem dX3_heardPitches_20 : decode cX3_heardPitches 20 = .ok (.invokevirtual 86, 3) := by decide +kernel
theorem dX3_heardPitches_23 : decode cX3_heardPitches 23 = .ok (.ifCond .lt 6, 3) := by decide +kernel
theorem dX3_heardPitches_26 : decode cX3_heardPitches 26 = .ok (.iinc 2 1, 3) := by decide +kernel
theorem dX3_heardPitches_29 : decode cX3_heardPitches 29 = .ok (.iinc 3 1, 3) := by decide +kernel
theorem dX3_heardPitches_32 : decode cX3_heardPitches 32 = .ok (.goto (-28), 3) := by decide +kernel
theorem dX3_heardPitches_35 : decode cX3_heardPitches 35 = .ok (.iload_n 2, 1) := by decide +kernel
theorem dX3_heardPitches_36 : decode cX3_heardPitches 36 = .ok (.ireturn, 1) := by decide +kernel
set_option maxRecDepth 20000 in
theorem ggX3_streetFact_X3_passersNow : GoodIn wsX3_streetFact wsX3_passersNow := goodIn_r _ [9, 10, 11, 12, 13, 14, 15, 65, 66, 67, 68, 69, 70, 60, 61, 62, 63, 64] (by decide +kernel) (by decide +kernel)
set_option maxRecDepth 20000 in
theorem gX3_streetFact_X3_passersNow : GoodIn wsX3_streetFact (wsV RX3 111 RX3 yX3_passersNow wsX3_passersNow) := goodIn_app (goodIn_of _ (by decide +kernel)) ggX3_streetFact_X3_passersNow
set_option maxRecDepth 20000 in
theorem ggX3_streetFact_X3_standingIn : GoodIn wsX3_streetFact wsX3_standingIn := goodIn_r _ [19, 20, 21, 22, 23, 24, 25, 26, 27, 28, 60, 61, 62, 63, 64, 71, 72, 73, 74, 75, 76, 77, 78, 79, 80, 81, 82] (by decide +kernel) (by decide +kernel)
set_option maxRecDepth 20000 in
theorem gX3_streetFact_X3_standingIn : GoodIn wsX3_streetFact (wsV RX3 83 RX3 yX3_standingIn wsX3_standingIn) := goodIn_app (goodIn_of _ (by decide +kernel)) ggX3_streetFact_X3_standingIn
set_option maxRecDepth 20000 in
theorem ggX3_streetFact_X3_complaintsIn : GoodIn wsX3_streetFact wsX3_complaintsIn := goodIn_r _ [32, 20, 21, 33, 60, 61, 62, 63, 64, 71, 72, 73, 74, 75, 76, 77, 78, 79, 80, 81, 82] (by decide +kernel) (by decide +kernel)
set_option maxRecDepth 20000 in
theorem gX3_streetFact_X3_complaintsIn : GoodIn wsX3_streetFact (wsV RX3 147 RX3 yX3_complaintsIn wsX3_complaintsIn) := goodIn_app (goodIn_of _ (by decide +kernel)) ggX3_streetFact_X3_complaintsIn
set_option maxRecDepth 20000 in
theorem ggX3_streetFact_X3_drownedPitches : GoodIn wsX3_streetFact wsX3_drownedPitches := goodIn_r _ [37, 1, 2, 38, 39, 40, 8, 41, 20, 21, 42, 43, 44, 25, 45, 46, 47, 48, 49, 50, 51, 52, 53, 54, 55, 23, 24, 26, 27, 28, 60, 61, 62, 63, 64, 65, 66, 67, 68, 69, 70, 71, 72, 73, 74, 75, 76, 77, 78, 79, 80, 81, 82] (by decide +kernel) (by decide +kernel)
set_option maxRecDepth 20000 in
theorem gX3_streetFact_X3_drownedPitches : GoodIn wsX3_streetFact (wsV RX3 164 RX3 yX3_drownedPitches wsX3_drownedPitches) := goodIn_app (goodIn_of _ (by decide +kernel)) ggX3_streetFact_X3_drownedPitches
set_option maxRecDepth 20000 in
theorem ggX3_streetFact_X3_heardPitches : GoodIn wsX3_streetFact wsX3_heardPitches := goodIn_r _ [59, 1, 2, 38, 39, 40, 8, 41, 20, 21, 42, 43, 44, 25, 45, 46, 47, 48, 49, 50, 51, 52, 53, 54, 55, 23, 24, 26, 27, 28, 60, 61, 62, 63, 64, 65, 66, 67, 68, 69, 70, 71, 72, 73, 74, 75, 76, 77, 78, 79, 80, 81, 82] (by decide +kernel) (by decide +kernel)
set_option maxRecDepth 20000 in
theorem gX3_streetFact_X3_heardPitches : GoodIn wsX3_streetFact (wsV RX3 167 RX3 yX3_heardPitches wsX3_heardPitches) := goodIn_app (goodIn_of _ (by decide +kernel)) ggX3_streetFact_X3_heardPitches
theorem dX3_streetFact_0 : decode cX3_streetFact 0 = .ok (.iload_n 2, 1) := by decide +kernel
theorem dX3_streetFact_1 : decode cX3_streetFact 1 = .ok (.tableswitch 102 0 6 #[43, 53, 64, 70, 76, 86, 96], 43) := by decide +kernel
theorem dX3_streetFact_44 : decode cX3_streetFact 44 = .ok (.aload_n 0, 1) := by decide +kernel
theorem dX3_streetFact_45 : decode cX3_streetFact 45 = .ok (.getfield 11, 3) := by decide +kernel
theorem dX3_streetFact_48 : decode cX3_streetFact 48 = .ok (.iload_n 1, 1) := by decide +kernel
theorem dX3_streetFact_49 : decode cX3_streetFact 49 = .ok (.aaload, 1) := by decide +kernel
theorem dX3_streetFact_50 : decode cX3_streetFact 50 = .ok (.getfield 42, 3) := by decide +kernel
theorem dX3_streetFact_53 : decode cX3_streetFact 53 = .ok (.ireturn, 1) := by decide +kernel
theorem dX3_streetFact_54 : decode cX3_streetFact 54 = .ok (.aload_n 0, 1) := by decide +kernel
theorem dX3_streetFact_55 : decode cX3_streetFact 55 = .ok (.aload_n 0, 1) := by decide +kernel
theorem dX3_streetFact_56 : decode cX3_streetFact 56 = .ok (.getfield 11, 3) := by decide +kernel
theorem dX3_streetFact_59 : decode cX3_streetFact 59 = .ok (.iload_n 1, 1) := by decide +kernel
theorem dX3_streetFact_60 : decode cX3_streetFact 60 = .ok (.aaload, 1) := by decide +kernel
theorem dX3_streetFact_61 : decode cX3_streetFact 61 = .ok (.invokevirtual 111, 3) := by decide +kernel
theorem dX3_streetFact_64 : decode cX3_streetFact 64 = .ok (.ireturn, 1) := by decide +kernel
theorem dX3_streetFact_65 : decode cX3_streetFact 65 = .ok (.aload_n 0, 1) := by decide +kernel
theorem dX3_streetFact_66 : decode cX3_streetFact 66 = .ok (.iload_n 1, 1) := by decide +kernel
theorem dX3_streetFact_67 : decode cX3_streetFact 67 = .ok (.invokevirtual 83, 3) := by decide +kernel
theorem dX3_streetFact_70 : decode cX3_streetFact 70 = .ok (.ireturn, 1) := by decide +kernel
theorem dX3_streetFact_71 : decode cX3_streetFact 71 = .ok (.aload_n 0, 1) := by decide +kernel
theorem dX3_streetFact_72 : decode cX3_streetFact 72 = .ok (.iload_n 1, 1) := by decide +kernel
theorem dX3_streetFact_73 : decode cX3_streetFact 73 = .ok (.invokevirtual 147, 3) := by decide +kernel
theorem dX3_streetFact_76 : decode cX3_streetFact 76 = .ok (.ireturn, 1) := by decide +kernel
theorem dX3_streetFact_77 : decode cX3_streetFact 77 = .ok (.aload_n 0, 1) := by decide +kernel
theorem dX3_streetFact_78 : decode cX3_streetFact 78 = .ok (.getfield 11, 3) := by decide +kernel
theorem dX3_streetFact_81 : decode cX3_streetFact 81 = .ok (.iload_n 1, 1) := by decide +kernel
theorem dX3_streetFact_82 : decode cX3_streetFact 82 = .ok (.aaload, 1) := by decide +kernel
theorem dX3_streetFact_83 : decode cX3_streetFact 83 = .ok (.getfield 97, 3) := by decide +kernel
theorem dX3_streetFact_86 : decode cX3_streetFact 86 = .ok (.ireturn, 1) := by decide +kernel
theorem dX3_streetFact_87 : decode cX3_streetFact 87 = .ok (.aload_n 0, 1) := by decide +kernel
theorem dX3_streetFact_88 : decode cX3_streetFact 88 = .ok (.getfield 11, 3) := by decide +kernel
theorem dX3_streetFact_91 : decode cX3_streetFact 91 = .ok (.iload_n 1, 1) := by decide +kernel
theorem dX3_streetFact_92 : decode cX3_streetFact 92 = .ok (.aaload, 1) := by decide +kernel
theorem dX3_streetFact_93 : decode cX3_streetFact 93 = .ok (.getfield 157, 3) := by decide +kernel
theorem dX3_streetFact_96 : decode cX3_streetFact 96 = .ok (.ireturn, 1) := by decide +kernel
theorem dX3_streetFact_97 : decode cX3_streetFact 97 = .ok (.aload_n 0, 1) := by decide +kernel
theorem dX3_streetFact_98 : decode cX3_streetFact 98 = .ok (.iload_n 1, 1) := by decide +kernel
theorem dX3_streetFact_99 : decode cX3_streetFact 99 = .ok (.invokevirtual 164, 3) := by decide +kernel
theorem dX3_streetFact_102 : decode cX3_streetFact 102 = .ok (.ireturn, 1) := by decide +kernel
theorem dX3_streetFact_103 : decode cX3_streetFact 103 = .ok (.aload_n 0, 1) := by decide +kernel
