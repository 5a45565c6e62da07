theorem dX5_pitchesWith_61 : decode cX5_pitchesWith 61 = .ok (.goto (-56), 3) := by decide +kernel
theorem dX5_pitchesWith_64 : decode cX5_pitchesWith 64 = .ok (.iload_n 3, 1) := by decide +kernel
theorem dX5_pitchesWith_65 : decode cX5_pitchesWith 65 = .ok (.ireturn, 1) := by decide +kernel
theorem dX5_complaintsOf_0 : decode cX5_complaintsOf 0 = .ok (.iconst 0, 1) := by decide +kernel
theorem dX5_complaintsOf_1 : decode cX5_complaintsOf 1 = .ok (.istore_n 3, 1) := by decide +kernel
theorem dX5_complaintsOf_2 : decode cX5_complaintsOf 2 = .ok (.iconst 0, 1) := by decide +kernel
theorem dX5_complaintsOf_3 : decode cX5_complaintsOf 3 = .ok (.istore 4, 2) := by decide +kernel
theorem dX5_complaintsOf_5 : decode cX5_complaintsOf 5 = .ok (.iload 4, 2) := by decide +kernel
theorem dX5_complaintsOf_7 : decode cX5_complaintsOf 7 = .ok (.aload_n 0, 1) := by decide +kernel
theorem dX5_complaintsOf_8 : decode cX5_complaintsOf 8 = .ok (.getfield 81, 3) := by decide +kernel
theorem dX5_complaintsOf_11 : decode cX5_complaintsOf 11 = .ok (.bipush 6, 2) := by decide +kernel
theorem dX5_complaintsOf_13 : decode cX5_complaintsOf 13 = .ok (.imul, 1) := by decide +kernel
theorem dX5_complaintsOf_14 : decode cX5_complaintsOf 14 = .ok (.if_icmp .ge 47, 3) := by decide +kernel
theorem dX5_complaintsOf_17 : decode cX5_complaintsOf 17 = .ok (.iload_n 1, 1) := by decide +kernel
theorem dX5_complaintsOf_18 : decode cX5_complaintsOf 18 = .ok (.iconst (-1), 1) := by decide +kernel
theorem dX5_complaintsOf_19 : decode cX5_complaintsOf 19 = .ok (.if_icmp .eq 12, 3) := by decide +kernel
theorem dX5_complaintsOf_22 : decode cX5_complaintsOf 22 = .ok (.iload 4, 2) := by decide +kernel
theorem dX5_complaintsOf_24 : decode cX5_complaintsOf 24 = .ok (.bipush 6, 2) := by decide +kernel
theorem dX5_complaintsOf_26 : decode cX5_complaintsOf 26 = .ok (.irem, 1) := by decide +kernel
theorem dX5_complaintsOf_27 : decode cX5_complaintsOf 27 = .ok (.iload_n 1, 1) := by decide +kernel
theorem dX5_complaintsOf_28 : decode cX5_complaintsOf 28 = .ok (.if_icmp .ne 27, 3) := by decide +kernel
theorem dX5_complaintsOf_31 : decode cX5_complaintsOf 31 = .ok (.iload_n 2, 1) := by decide +kernel
theorem dX5_complaintsOf_32 : decode cX5_complaintsOf 32 = .ok (.iconst (-1), 1) := by decide +kernel
theorem dX5_complaintsOf_33 : decode cX5_complaintsOf 33 = .ok (.if_icmp .eq 12, 3) := by decide +kernel
theorem dX5_complaintsOf_36 : decode cX5_complaintsOf 36 = .ok (.iload 4, 2) := by decide +kernel
theorem dX5_complaintsOf_38 : decode cX5_complaintsOf 38 = .ok (.bipush 6, 2) := by decide +kernel
theorem dX5_complaintsOf_40 : decode cX5_complaintsOf 40 = .ok (.idiv, 1) := by decide +kernel
theorem dX5_complaintsOf_41 : decode cX5_complaintsOf 41 = .ok (.iload_n 2, 1) := by decide +kernel
theorem dX5_complaintsOf_42 : decode cX5_complaintsOf 42 = .ok (.if_icmp .ne 13, 3) := by decide +kernel
theorem dX5_complaintsOf_45 : decode cX5_complaintsOf 45 = .ok (.iload_n 3, 1) := by decide +kernel
theorem dX5_complaintsOf_46 : decode cX5_complaintsOf 46 = .ok (.aload_n 0, 1) := by decide +kernel
theorem dX5_complaintsOf_47 : decode cX5_complaintsOf 47 = .ok (.getfield 55, 3) := by decide +kernel
theorem dX5_complaintsOf_50 : decode cX5_complaintsOf 50 = .ok (.iload 4, 2) := by decide +kernel
theorem dX5_complaintsOf_52 : decode cX5_complaintsOf 52 = .ok (.iaload, 1) := by decide +kernel
theorem dX5_complaintsOf_53 : decode cX5_complaintsOf 53 = .ok (.iadd, 1) := by decide +kernel
theorem dX5_complaintsOf_54 : decode cX5_complaintsOf 54 = .ok (.istore_n 3, 1) := by decide +kernel
theorem dX5_complaintsOf_55 : decode cX5_complaintsOf 55 = .ok (.iinc 4 1, 3) := by decide +kernel
theorem dX5_complaintsOf_58 : decode cX5_complaintsOf 58 = .ok (.goto (-53), 3) := by decide +kernel
theorem dX5_complaintsOf_61 : decode cX5_complaintsOf 61 = .ok (.iload_n 3, 1) := by decide +kernel
theorem dX5_complaintsOf_62 : decode cX5_complaintsOf 62 = .ok (.ireturn, 1) := by decide +kernel
set_option maxRecDepth 20000 in
theorem ggX5_pass_X5_over : GoodIn wsX5_pass wsX5_over := goodIn_r _ [23, 2, 73, 74, 75, 76, 77, 78, 79, 80, 81, 82, 83, 84, 85, 86, 87, 88, 89, 90, 91, 92, 93] (by decide +kernel) (by decide +kernel)
set_option maxRecDepth 20000 in
theorem gX5_pass_X5_over : GoodIn wsX5_pass (wsV RX5 111 RX5 yX5_over wsX5_over) := goodIn_app (goodIn_of _ (by decide +kernel)) ggX5_pass_X5_over
set_option maxRecDepth 20000 in
theorem ggX5_pass_X5_listen : GoodIn wsX5_pass wsX5_listen := goodIn_r _ [27, 28, 29, 8, 15, 16, 11, 17, 30, 18, 1, 31, 2, 32, 33, 34, 35, 22, 36, 37, 38, 39, 40, 41, 42, 43, 44, 45, 4, 46, 47, 48, 49, 50, 51, 52, 53, 54, 55, 13, 56, 57, 58, 59, 73, 74, 75, 76, 77, 78, 79, 80, 81, 82, 83, 84, 85, 86, 87, 88, 89, 90, 91, 92, 93, 94, 95, 96, 97, 98, 99] (by decide +kernel) (by decide +kernel)
set_option maxRecDepth 20000 in
theorem gX5_pass_X5_listen : GoodIn wsX5_pass (wsV RX5 115 RX5 yX5_listen wsX5_listen) := goodIn_app (goodIn_of _ (by decide +kernel)) ggX5_pass_X5_listen
set_option maxRecDepth 20000 in
theorem ggX5_pass_X5_tire : GoodIn wsX5_pass wsX5_tire := goodIn_r _ [63, 2, 45, 4, 29, 9, 10, 11, 12, 15, 16, 17, 51, 52, 53, 22, 54, 55, 13, 56, 57, 58, 59, 73, 74, 75, 76, 77, 78, 79, 80, 81, 82, 83, 84, 85, 86, 87, 88, 89, 90, 91, 92, 93] (by decide +kernel) (by decide +kernel)
set_option maxRecDepth 20000 in
theorem gX5_pass_X5_tire : GoodIn wsX5_pass (wsV RX5 119 RX5 yX5_tire wsX5_tire) := goodIn_app (goodIn_of _ (by decide +kernel)) ggX5_pass_X5_tire
set_option maxRecDepth 20000 in
theorem ggX5_pass_X5_tune : GoodIn wsX5_pass wsX5_tune := goodIn_r _ [54, 55, 13, 56, 57, 58, 22, 59, 73, 74, 75, 76, 77, 78, 79, 80, 81, 82, 83, 84, 85, 86, 87, 88, 89, 90, 91, 92, 93] (by decide +kernel) (by decide +kernel)
set_option maxRecDepth 20000 in
theorem gX5_pass_X5_tune : GoodIn wsX5_pass (wsV RX5 122 RX5 yX5_tune wsX5_tune) := goodIn_app (goodIn_of _ (by decide +kernel)) ggX5_pass_X5_tune
set_option maxRecDepth 20000 in
theorem ggX5_pass_X5_tunes : GoodIn wsX5_pass wsX5_tunes := goodIn_r _ [59, 55, 73, 74, 75, 76, 77, 78, 79, 80, 81, 82, 83, 84, 85, 86, 87, 88, 89, 90, 91, 92, 93] (by decide +kernel) (by decide +kernel)
set_option maxRecDepth 20000 in
theorem gX5_pass_X5_tunes : GoodIn wsX5_pass (wsV RX5 88 RX5 yX5_tunes wsX5_tunes) := goodIn_app (goodIn_of _ (by decide +kernel)) ggX5_pass_X5_tunes
set_option maxRecDepth 20000 in
theorem ggX5_pass_X5_complaintsOf : GoodIn wsX5_pass wsX5_complaintsOf := goodIn_r _ [67, 2, 32, 73, 74, 75, 76, 77, 78, 79, 80, 81, 82, 83, 84, 85, 86, 87, 88, 89, 90, 91, 92, 93] (by decide +kernel) (by decide +kernel)
set_option maxRecDepth 20000 in
theorem gX5_pass_X5_complaintsOf : GoodIn wsX5_pass (wsV RX5 128 RX5 yX5_complaintsOf wsX5_complaintsOf) := goodIn_app (goodIn_of _ (by decide +kernel)) ggX5_pass_X5_complaintsOf
set_option maxRecDepth 20000 in
theorem ggX5_pass_X5_sweep : GoodIn wsX5_pass wsX5_sweep := goodIn_r _ [71, 2, 32, 14, 5, 72, 45, 4, 6, 47, 73, 74, 75, 76, 77, 78, 79, 80, 81, 82, 83, 84, 85, 86, 87, 88, 89, 90, 91, 92, 93] (by decide +kernel) (by decide +kernel)
set_option maxRecDepth 20000 in
theorem gX5_pass_X5_sweep : GoodIn wsX5_pass (wsV RX5 131 RX5 yX5_sweep wsX5_sweep) := goodIn_app (goodIn_of _ (by decide +kernel)) ggX5_pass_X5_sweep
theorem dX5_pass_0 : decode cX5_pass 0 = .ok (.aload_n 0, 1) := by decide +kernel
theorem dX5_pass_1 : decode cX5_pass 1 = .ok (.aload_n 0, 1) := by decide +kernel
theorem dX5_pass_2 : decode cX5_pass 2 = .ok (.getfield 43, 3) := by decide +kernel
theorem dX5_pass_5 : decode cX5_pass 5 = .ok (.invokevirtual 111, 3) := by decide +kernel
theorem dX5_pass_8 : decode cX5_pass 8 = .ok (.istore_n 1, 1) := by decide +kernel
theorem dX5_pass_9 : decode cX5_pass 9 = .ok (.iconst 0, 1) := by decide +kernel
theorem dX5_pass_10 : decode cX5_pass 10 = .ok (.istore_n 2, 1) := by decide +kernel
theorem dX5_pass_11 : decode cX5_pass 11 = .ok (.iload_n 2, 1) := by decide +kernel
theorem dX5_pass_12 : decode cX5_pass 12 = .ok (.aload_n 0, 1) := by decide +kernel
theorem dX5_pass_13 : decode cX5_pass 13 = .ok (.getfield 81, 3) := by decide +kernel
theorem dX5_pass_16 : decode cX5_pass 16 = .ok (.if_icmp .ge 29, 3) := by decide +kernel
theorem dX5_pass_19 : decode cX5_pass 19 = .ok (.aload_n 0, 1) := by decide +kernel
theorem dX5_pass_20 : decode cX5_pass 20 = .ok (.getfield 61, 3) := by decide +kernel
theorem dX5_pass_23 : decode cX5_pass 23 = .ok (.iload_n 2, 1) := by decide +kernel
theorem dX5_pass_24 : decode cX5_pass 24 = .ok (.aload_n 0, 1) := by decide +kernel
theorem dX5_pass_25 : decode cX5_pass 25 = .ok (.getfield 37, 3) := by decide +kernel
theorem dX5_pass_28 : decode cX5_pass 28 = .ok (.iload_n 2, 1) := by decide +kernel
theorem dX5_pass_29 : decode cX5_pass 29 = .ok (.iaload, 1) := by decide +kernel
theorem dX5_pass_30 : decode cX5_pass 30 = .ok (.ifCond .le 7, 3) := by decide +kernel
theorem dX5_pass_33 : decode cX5_pass 33 = .ok (.iconst 1, 1) := by decide +kernel
theorem dX5_pass_34 : decode cX5_pass 34 = .ok (.goto 4, 3) := by decide +kernel
theorem dX5_pass_37 : decode cX5_pass 37 = .ok (.iconst 0, 1) := by decide +kernel
theorem dX5_pass_38 : decode cX5_pass 38 = .ok (.bastore, 1) := by decide +kernel
theorem dX5_pass_39 : decode cX5_pass 39 = .ok (.iinc 2 1, 3) := by decide +kernel
theorem dX5_pass_42 : decode cX5_pass 42 = .ok (.goto (-31), 3) := by decide +kernel
theorem dX5_pass_45 : decode cX5_pass 45 = .ok (.iconst 0, 1) := by decide +kernel
theorem dX5_pass_46 : decode cX5_pass 46 = .ok (.istore_n 2, 1) := by decide +kernel
theorem dX5_pass_47 : decode cX5_pass 47 = .ok (.iload_n 2, 1) := by decide +kernel
theorem dX5_pass_48 : decode cX5_pass 48 = .ok (.aload_n 0, 1) := by decide +kernel
theorem dX5_pass_49 : decode cX5_pass 49 = .ok (.getfield 65, 3) := by decide +kernel
theorem dX5_pass_52 : decode cX5_pass 52 = .ok (.arraylength, 1) := by decide +kernel
theorem dX5_pass_53 : decode cX5_pass 53 = .ok (.if_icmp .ge 16, 3) := by decide +kernel
theorem dX5_pass_56 : decode cX5_pass 56 = .ok (.aload_n 0, 1) := by decide +kernel
theorem dX5_pass_57 : decode cX5_pass 57 = .ok (.getfield 65, 3) := by decide +kernel
theorem dX5_pass_60 : decode cX5_pass 60 = .ok (.iload_n 2, 1) := by decide +kernel
theorem dX5_pass_61 : decode cX5_pass 61 = .ok (.iconst 0, 1) := by decide +kernel
theorem dX5_pass_62 : decode cX5_pass 62 = .ok (.bastore, 1) := by decide +kernel
theorem dX5_pass_63 : decode cX5_pass 63 = .ok (.iinc 2 1, 3) := by decide +kernel
theorem dX5_pass_66 : decode cX5_pass 66 = .ok (.goto (-19), 3) := by decide +kernel
theorem dX5_pass_69 : decode cX5_pass 69 = .ok (.iconst 0, 1) := by decide +kernel
theorem dX5_pass_70 : decode cX5_pass 70 = .ok (.istore_n 2, 1) := by decide +kernel
theorem dX5_pass_71 : decode cX5_pass 71 = .ok (.iload_n 2, 1) := by decide +kernel
theorem dX5_pass_72 : decode cX5_pass 72 = .ok (.aload_n 0, 1) := by decide +kernel
theorem dX5_pass_73 : decode cX5_pass 73 = .ok (.getfield 78, 3) := by decide +kernel
theorem dX5_pass_76 : decode cX5_pass 76 = .ok (.if_icmp .ge 33, 3) := by decide +kernel
theorem dX5_pass_79 : decode cX5_pass 79 = .ok (.iconst 0, 1) := by decide +kernel
theorem dX5_pass_80 : decode cX5_pass 80 = .ok (.istore_n 3, 1) := by decide +kernel
theorem dX5_pass_81 : decode cX5_pass 81 = .ok (.iload_n 3, 1) := by decide +kernel
theorem dX5_pass_82 : decode cX5_pass 82 = .ok (.aload_n 0, 1) := by decide +kernel
theorem dX5_pass_83 : decode cX5_pass 83 = .ok (.getfield 15, 3) := by decide +kernel
theorem dX5_pass_86 : decode cX5_pass 86 = .ok (.iload_n 2, 1) := by decide +kernel
theorem dX5_pass_87 : decode cX5_pass 87 = .ok (.iaload, 1) := by decide +kernel
theorem dX5_pass_88 : decode cX5_pass 88 = .ok (.if_icmp .ge 15, 3) := by decide +kernel
theorem dX5_pass_91 : decode cX5_pass 91 = .ok (.aload_n 0, 1) := by decide +kernel
theorem dX5_pass_92 : decode cX5_pass 92 = .ok (.iload_n 2, 1) := by decide +kernel
theorem dX5_pass_93 : decode cX5_pass 93 = .ok (.iload_n 3, 1) := by decide +kernel
theorem dX5_pass_94 : decode cX5_pass 94 = .ok (.invokevirtual 115, 3) := by decide +kernel
theorem dX5_pass_97 : decode cX5_pass 97 = .ok (.iinc 3 1, 3) := by decide +kernel
theorem dX5_pass_100 : decode cX5_pass 100 = .ok (.goto (-19), 3) := by decide +kernel
theorem dX5_pass_103 : decode cX5_pass 103 = .ok (.iinc 2 1, 3) := by decide +kernel
theorem dX5_pass_106 : decode cX5_pass 106 = .ok (.goto (-35), 3) := by decide +kernel
theorem dX5_pass_109 : decode cX5_pass 109 = .ok (.iconst 0, 1) := by decide +kernel
theorem dX5_pass_110 : decode cX5_pass 110 = .ok (.istore_n 2, 1) := by decide +kernel
theorem dX5_pass_111 : decode cX5_pass 111 = .ok (.iload_n 2, 1) := by decide +kernel
theorem dX5_pass_112 : decode cX5_pass 112 = .ok (.aload_n 0, 1) := by decide +kernel
theorem dX5_pass_113 : decode cX5_pass 113 = .ok (.getfield 78, 3) := by decide +kernel
theorem dX5_pass_116 : decode cX5_pass 116 = .ok (.if_icmp .ge 29, 3) := by decide +kernel
theorem dX5_pass_119 : decode cX5_pass 119 = .ok (.iconst 0, 1) := by decide +kernel
theorem dX5_pass_120 : decode cX5_pass 120 = .ok (.istore_n 3, 1) := by decide +kernel
theorem dX5_pass_121 : decode cX5_pass 121 = .ok (.iload_n 3, 1) := by decide +kernel
theorem dX5_pass_122 : decode cX5_pass 122 = .ok (.bipush 6, 2) := by decide +kernel
theorem dX5_pass_124 : decode cX5_pass 124 = .ok (.if_icmp .ge 15, 3) := by decide +kernel
theorem dX5_pass_127 : decode cX5_pass 127 = .ok (.aload_n 0, 1) := by decide +kernel
theorem dX5_pass_128 : decode cX5_pass 128 = .ok (.iload_n 2, 1) := by decide +kernel
theorem dX5_pass_129 : decode cX5_pass 129 = .ok (.iload_n 3, 1) := by decide +kernel
theorem dX5_pass_130 : decode cX5_pass 130 = .ok (.invokevirtual 119, 3) := by decide +kernel
theorem dX5_pass_133 : decode cX5_pass 133 = .ok (.iinc 3 1, 3) := by decide +kernel
theorem dX5_pass_136 : decode cX5_pass 136 = .ok (.goto (-15), 3) := by decide +kernel
theorem dX5_pass_139 : decode cX5_pass 139 = .ok (.iinc 2 1, 3) := by decide +kernel
theorem dX5_pass_142 : decode cX5_pass 142 = .ok (.goto (-31), 3) := by decide +kernel
theorem dX5_pass_145 : decode cX5_pass 145 = .ok (.iconst 0, 1) := by decide +kernel
theorem dX5_pass_146 : decode cX5_pass 146 = .ok (.istore_n 2, 1) := by decide +kernel
theorem dX5_pass_147 : decode cX5_pass 147 = .ok (.iload_n 2, 1) := by decide +kernel
theorem dX5_pass_148 : decode cX5_pass 148 = .ok (.aload_n 0, 1) := by decide +kernel
theorem dX5_pass_149 : decode cX5_pass 149 = .ok (.getfield 81, 3) := by decide +kernel
theorem dX5_pass_152 : decode cX5_pass 152 = .ok (.if_icmp .ge 71, 3) := by decide +kernel
theorem dX5_pass_155 : decode cX5_pass 155 = .ok (.aload_n 0, 1) := by decide +kernel
theorem dX5_pass_156 : decode cX5_pass 156 = .ok (.getfield 61, 3) := by decide +kernel
theorem dX5_pass_159 : decode cX5_pass 159 = .ok (.iload_n 2, 1) := by decide +kernel
theorem dX5_pass_160 : decode cX5_pass 160 = .ok (.baload, 1) := by decide +kernel
theorem dX5_pass_161 : decode cX5_pass 161 = .ok (.ifCond .eq 6, 3) := by decide +kernel
theorem dX5_pass_164 : decode cX5_pass 164 = .ok (.goto 53, 3) := by decide +kernel
theorem dX5_pass_167 : decode cX5_pass 167 = .ok (.bipush 6, 2) := by decide +kernel
theorem dX5_pass_169 : decode cX5_pass 169 = .ok (.iload_n 2, 1) := by decide +kernel
theorem dX5_pass_170 : decode cX5_pass 170 = .ok (.imul, 1) := by decide +kernel
theorem dX5_pass_171 : decode cX5_pass 171 = .ok (.aload_n 0, 1) := by decide +kernel
theorem dX5_pass_172 : decode cX5_pass 172 = .ok (.iload_n 2, 1) := by decide +kernel
theorem dX5_pass_173 : decode cX5_pass 173 = .ok (.invokevirtual 122, 3) := by decide +kernel
theorem dX5_pass_176 : decode cX5_pass 176 = .ok (.iadd, 1) := by decide +kernel
theorem dX5_pass_177 : decode cX5_pass 177 = .ok (.istore_n 3, 1) := by decide +kernel
theorem dX5_pass_178 : decode cX5_pass 178 = .ok (.aload_n 0, 1) := by decide +kernel
theorem dX5_pass_179 : decode cX5_pass 179 = .ok (.getfield 52, 3) := by decide +kernel
theorem dX5_pass_182 : decode cX5_pass 182 = .ok (.iload_n 3, 1) := by decide +kernel
theorem dX5_pass_183 : decode cX5_pass 183 = .ok (.bipush 90, 2) := by decide +kernel
theorem dX5_pass_185 : decode cX5_pass 185 = .ok (.aload_n 0, 1) := by decide +kernel
theorem dX5_pass_186 : decode cX5_pass 186 = .ok (.getfield 52, 3) := by decide +kernel
theorem dX5_pass_189 : decode cX5_pass 189 = .ok (.iload_n 3, 1) := by decide +kernel
theorem dX5_pass_190 : decode cX5_pass 190 = .ok (.iaload, 1) := by decide +kernel
theorem dX5_pass_191 : decode cX5_pass 191 = .ok (.iconst 1, 1) := by decide +kernel
theorem dX5_pass_192 : decode cX5_pass 192 = .ok (.iadd, 1) := by decide +kernel
theorem dX5_pass_193 : decode cX5_pass 193 = .ok (.invokestatic 125, 3) := by decide +kernel
theorem dX5_pass_196 : decode cX5_pass 196 = .ok (.iastore, 1) := by decide +kernel
theorem dX5_pass_197 : decode cX5_pass 197 = .ok (.aload_n 0, 1) := by decide +kernel
theorem dX5_pass_198 : decode cX5_pass 198 = .ok (.getfield 49, 3) := by decide +kernel
theorem dX5_pass_201 : decode cX5_pass 201 = .ok (.iload_n 2, 1) := by decide +kernel
theorem dX5_pass_202 : decode cX5_pass 202 = .ok (.aload_n 0, 1) := by decide +kernel
theorem dX5_pass_203 : decode cX5_pass 203 = .ok (.getfield 49, 3) := by decide +kernel
theorem dX5_pass_206 : decode cX5_pass 206 = .ok (.iload_n 2, 1) := by decide +kernel
theorem dX5_pass_207 : decode cX5_pass 207 = .ok (.iaload, 1) := by decide +kernel
theorem dX5_pass_208 : decode cX5_pass 208 = .ok (.iconst 1, 1) := by decide +kernel
theorem dX5_pass_209 : decode cX5_pass 209 = .ok (.iadd, 1) := by decide +kernel
theorem dX5_pass_210 : decode cX5_pass 210 = .ok (.aload_n 0, 1) := by decide +kernel
theorem dX5_pass_211 : decode cX5_pass 211 = .ok (.iload_n 2, 1) := by decide +kernel
theorem dX5_pass_212 : decode cX5_pass 212 = .ok (.invokevirtual 88, 3) := by decide +kernel
theorem dX5_pass_215 : decode cX5_pass 215 = .ok (.irem, 1) := by decide +kernel
theorem dX5_pass_216 : decode cX5_pass 216 = .ok (.iastore, 1) := by decide +kernel
theorem dX5_pass_217 : decode cX5_pass 217 = .ok (.iinc 2 1, 3) := by decide +kernel
theorem dX5_pass_220 : decode cX5_pass 220 = .ok (.goto (-73), 3) := by decide +kernel
theorem dX5_pass_223 : decode cX5_pass 223 = .ok (.iconst 0, 1) := by decide +kernel
theorem dX5_pass_224 : decode cX5_pass 224 = .ok (.istore_n 2, 1) := by decide +kernel
theorem dX5_pass_225 : decode cX5_pass 225 = .ok (.iload_n 2, 1) := by decide +kernel
theorem dX5_pass_226 : decode cX5_pass 226 = .ok (.aload_n 0, 1) := by decide +kernel
theorem dX5_pass_227 : decode cX5_pass 227 = .ok (.getfield 78, 3) := by decide +kernel
theorem dX5_pass_230 : decode cX5_pass 230 = .ok (.if_icmp .ge 25, 3) := by decide +kernel
theorem dX5_pass_233 : decode cX5_pass 233 = .ok (.aload_n 0, 1) := by decide +kernel
theorem dX5_pass_234 : decode cX5_pass 234 = .ok (.iload_n 2, 1) := by decide +kernel
theorem dX5_pass_235 : decode cX5_pass 235 = .ok (.iconst (-1), 1) := by decide +kernel
theorem dX5_pass_236 : decode cX5_pass 236 = .ok (.invokevirtual 128, 3) := by decide +kernel
theorem dX5_pass_239 : decode cX5_pass 239 = .ok (.bipush 10, 2) := by decide +kernel
theorem dX5_pass_241 : decode cX5_pass 241 = .ok (.if_icmp .lt 8, 3) := by decide +kernel
theorem dX5_pass_244 : decode cX5_pass 244 = .ok (.aload_n 0, 1) := by decide +kernel
theorem dX5_pass_245 : decode cX5_pass 245 = .ok (.iload_n 2, 1) := by decide +kernel
theorem dX5_pass_246 : decode cX5_pass 246 = .ok (.invokevirtual 131, 3) := by decide +kernel
theorem dX5_pass_249 : decode cX5_pass 249 = .ok (.iinc 2 1, 3) := by decide +kernel
theorem dX5_pass_252 : decode cX5_pass 252 = .ok (.goto (-27), 3) := by decide +kernel
theorem dX5_pass_255 : decode cX5_pass 255 = .ok (.iconst 0, 1) := by decide +kernel
theorem dX5_pass_256 : decode cX5_pass 256 = .ok (.istore_n 2, 1) := by decide +kernel
theorem dX5_pass_257 : decode cX5_pass 257 = .ok (.iload_n 2, 1) := by decide +kernel
theorem dX5_pass_258 : decode cX5_pass 258 = .ok (.aload_n 0, 1) := by decide +kernel
theorem dX5_pass_259 : decode cX5_pass 259 = .ok (.getfield 81, 3) := by decide +kernel
theorem dX5_pass_262 : decode cX5_pass 262 = .ok (.if_icmp .ge 28, 3) := by decide +kernel
theorem dX5_pass_265 : decode cX5_pass 265 = .ok (.aload_n 0, 1) := by decide +kernel
theorem dX5_pass_266 : decode cX5_pass 266 = .ok (.getfield 61, 3) := by decide +kernel
theorem dX5_pass_269 : decode cX5_pass 269 = .ok (.iload_n 2, 1) := by decide +kernel
theorem dX5_pass_270 : decode cX5_pass 270 = .ok (.baload, 1) := by decide +kernel
theorem dX5_pass_271 : decode cX5_pass 271 = .ok (.ifCond .eq 13, 3) := by decide +kernel
theorem dX5_pass_274 : decode cX5_pass 274 = .ok (.aload_n 0, 1) := by decide +kernel
theorem dX5_pass_275 : decode cX5_pass 275 = .ok (.getfield 37, 3) := by decide +kernel
theorem dX5_pass_278 : decode cX5_pass 278 = .ok (.iload_n 2, 1) := by decide +kernel
theorem dX5_pass_279 : decode cX5_pass 279 = .ok (.dup2, 1) := by decide +kernel
theorem dX5_pass_280 : decode cX5_pass 280 = .ok (.iaload, 1) := by decide +kernel
theorem dX5_pass_281 : decode cX5_pass 281 = .ok (.iconst 1, 1) := by decide +kernel
theorem dX5_pass_282 : decode cX5_pass 282 = .ok (.isub, 1) := by decide +kernel
theorem dX5_pass_283 : decode cX5_pass 283 = .ok (.iastore, 1) := by decide +kernel
theorem dX5_pass_284 : decode cX5_pass 284 = .ok (.iinc 2 1, 3) := by decide +kernel
theorem dX5_pass_287 : decode cX5_pass 287 = .ok (.goto (-30), 3) := by decide +kernel
theorem dX5_pass_290 : decode cX5_pass 290 = .ok (.iconst 0, 1) := by decide +kernel
theorem dX5_pass_291 : decode cX5_pass 291 = .ok (.istore_n 2, 1) := by decide +kernel
theorem dX5_pass_292 : decode cX5_pass 292 = .ok (.iload_n 2, 1) := by decide +kernel
theorem dX5_pass_293 : decode cX5_pass 293 = .ok (.aload_n 0, 1) := by decide +kernel
theorem dX5_pass_294 : decode cX5_pass 294 = .ok (.getfield 65, 3) := by decide +kernel
theorem dX5_pass_297 : decode cX5_pass 297 = .ok (.arraylength, 1) := by decide +kernel
theorem dX5_pass_298 : decode cX5_pass 298 = .ok (.if_icmp .ge 36, 3) := by decide +kernel
theorem dX5_pass_301 : decode cX5_pass 301 = .ok (.aload_n 0, 1) := by decide +kernel
theorem dX5_pass_302 : decode cX5_pass 302 = .ok (.getfield 65, 3) := by decide +kernel
theorem dX5_pass_305 : decode cX5_pass 305 = .ok (.iload_n 2, 1) := by decide +kernel
theorem dX5_pass_306 : decode cX5_pass 306 = .ok (.baload, 1) := by decide +kernel
theorem dX5_pass_307 : decode cX5_pass 307 = .ok (.ifCond .ne 21, 3) := by decide +kernel
theorem dX5_pass_310 : decode cX5_pass 310 = .ok (.aload_n 0, 1) := by decide +kernel
theorem dX5_pass_311 : decode cX5_pass 311 = .ok (.getfield 58, 3) := by decide +kernel
theorem dX5_pass_314 : decode cX5_pass 314 = .ok (.iload_n 2, 1) := by decide +kernel
theorem dX5_pass_315 : decode cX5_pass 315 = .ok (.iconst 0, 1) := by decide +kernel
theorem dX5_pass_316 : decode cX5_pass 316 = .ok (.aload_n 0, 1) := by decide +kernel
theorem dX5_pass_317 : decode cX5_pass 317 = .ok (.getfield 58, 3) := by decide +kernel
theorem dX5_pass_320 : decode cX5_pass 320 = .ok (.iload_n 2, 1) := by decide +kernel
theorem dX5_pass_321 : decode cX5_pass 321 = .ok (.iaload, 1) := by decide +kernel
theorem dX5_pass_322 : decode cX5_pass 322 = .ok (.iconst 1, 1) := by decide +kernel
theorem dX5_pass_323 : decode cX5_pass 323 = .ok (.isub, 1) := by decide +kernel
theorem dX5_pass_324 : decode cX5_pass 324 = .ok (.invokestatic 97, 3) := by decide +kernel
theorem dX5_pass_327 : decode cX5_pass 327 = .ok (.iastore, 1) := by decide +kernel
theorem dX5_pass_328 : decode cX5_pass 328 = .ok (.iinc 2 1, 3) := by decide +kernel
theorem dX5_pass_331 : decode cX5_pass 331 = .ok (.goto (-39), 3) := by decide +kernel
theorem dX5_pass_334 : decode cX5_pass 334 = .ok (.aload_n 0, 1) := by decide +kernel
theorem dX5_pass_335 : decode cX5_pass 335 = .ok (.dup, 1) := by decide +kernel
theorem dX5_pass_336 : decode cX5_pass 336 = .ok (.getfield 74, 3) := by decide +kernel
theorem dX5_pass_339 : decode cX5_pass 339 = .ok (.iconst 1, 1) := by decide +kernel
theorem dX5_pass_340 : decode cX5_pass 340 = .ok (.iadd, 1) := by decide +kernel
theorem dX5_pass_341 : decode cX5_pass 341 = .ok (.putfield 74, 3) := by decide +kernel
theorem dX5_pass_344 : decode cX5_pass 344 = .ok (.aload_n 0, 1) := by decide +kernel
theorem dX5_pass_345 : decode cX5_pass 345 = .ok (.aload_n 0, 1) := by decide +kernel
theorem dX5_pass_346 : decode cX5_pass 346 = .ok (.getfield 43, 3) := by decide +kernel
theorem dX5_pass_349 : decode cX5_pass 349 = .ok (.invokevirtual 111, 3) := by decide +kernel
theorem dX5_pass_352 : decode cX5_pass 352 = .ok (.iload_n 1, 1) := by decide +kernel
theorem dX5_pass_353 : decode cX5_pass 353 = .ok (.isub, 1) := by decide +kernel
theorem dX5_pass_354 : decode cX5_pass 354 = .ok (.ireturn, 1) := by decide +kernel
set_option maxRecDepth 20000 in
theorem ggX5_listen_X5_heard : GoodIn wsX5_listen wsX5_heard := goodIn_r _ [18, 12, 19, 20, 21, 17, 22, 4, 5, 6, 7, 23, 24, 25, 26, 27, 28, 29, 30, 31, 32, 33, 44, 45, 46, 47, 48, 49, 50, 51, 52, 53, 54, 55, 56, 57, 58, 59, 60, 61, 62, 63, 64] (by decide +kernel) (by decide +kernel)
set_option maxRecDepth 20000 in
theorem gX5_listen_X5_heard : GoodIn wsX5_listen (wsV RX5 108 RX5 yX5_heard wsX5_heard) := goodIn_app (goodIn_of _ (by decide +kernel)) ggX5_listen_X5_heard
set_option maxRecDepth 20000 in
theorem ggX5_listen_X5_tune : GoodIn wsX5_listen wsX5_tune := goodIn_r _ [37, 38, 39, 40, 41, 42, 17, 43, 44, 45, 46, 47, 48, 49, 50, 51, 52, 53, 54, 55, 56, 57, 58, 59, 60, 61, 62, 63, 64] (by decide +kernel) (by decide +kernel)
set_option maxRecDepth 20000 in
theorem gX5_listen_X5_tune : GoodIn wsX5_listen (wsV RX5 122 RX5 yX5_tune wsX5_tune) := goodIn_app (goodIn_of _ (by decide +kernel)) ggX5_listen_X5_tune
set_option maxRecDepth 20000 in
theorem ggX5_listen_X5_loudest : GoodIn wsX5_listen wsX5_loudest := goodIn_r _ [22, 12, 4, 5, 6, 7, 23, 24, 25, 17, 26, 27, 28, 29, 30, 31, 32, 33, 44, 45, 46, 47, 48, 49, 50, 51, 52, 53, 54, 55, 56, 57, 58, 59, 60, 61, 62, 63, 64] (by decide +kernel) (by decide +kernel)
set_option maxRecDepth 20000 in
theorem gX5_listen_X5_loudest : GoodIn wsX5_listen (wsV RX5 105 RX5 yX5_loudest wsX5_loudest) := goodIn_app (goodIn_of _ (by decide +kernel)) ggX5_listen_X5_loudest
set_option maxRecDepth 20000 in
theorem ggX5_listen_X5_sound : GoodIn wsX5_listen wsX5_sound := goodIn_r _ [26, 27, 28, 29, 30, 31, 32, 6, 33, 4, 5, 7, 44, 45, 46, 47, 48, 49, 50, 51, 52, 53, 54, 55, 56, 57, 58, 59, 60, 61, 62, 63, 64] (by decide +kernel) (by decide +kernel)
set_option maxRecDepth 20000 in
theorem gX5_listen_X5_sound : GoodIn wsX5_listen (wsV RX5 101 RX5 yX5_sound wsX5_sound) := goodIn_app (goodIn_of _ (by decide +kernel)) ggX5_listen_X5_sound
theorem dX5_listen_0 : decode cX5_listen 0 = .ok (.aload_n 0, 1) := by decide +kernel
theorem dX5_listen_1 : decode cX5_listen 1 = .ok (.iload_n 1, 1) := by decide +kernel
theorem dX5_listen_2 : decode cX5_listen 2 = .ok (.iload_n 2, 1) := by decide +kernel
theorem dX5_listen_3 : decode cX5_listen 3 = .ok (.invokevirtual 108, 3) := by decide +kernel
theorem dX5_listen_6 : decode cX5_listen 6 = .ok (.istore_n 3, 1) := by decide +kernel
theorem dX5_listen_7 : decode cX5_listen 7 = .ok (.iload_n 3, 1) := by decide +kernel
theorem dX5_listen_8 : decode cX5_listen 8 = .ok (.ifCond .lt 107, 3) := by decide +kernel
theorem dX5_listen_11 : decode cX5_listen 11 = .ok (.aload_n 0, 1) := by decide +kernel
theorem dX5_listen_12 : decode cX5_listen 12 = .ok (.iload_n 3, 1) := by decide +kernel
theorem dX5_listen_13 : decode cX5_listen 13 = .ok (.invokevirtual 122, 3) := by decide +kernel
theorem dX5_listen_16 : decode cX5_listen 16 = .ok (.istore 4, 2) := by decide +kernel
theorem dX5_listen_18 : decode cX5_listen 18 = .ok (.iconst 0, 1) := by decide +kernel
theorem dX5_listen_19 : decode cX5_listen 19 = .ok (.aload_n 0, 1) := by decide +kernel
theorem dX5_listen_20 : decode cX5_listen 20 = .ok (.getfield 19, 3) := by decide +kernel
theorem dX5_listen_23 : decode cX5_listen 23 = .ok (.bipush 6, 2) := by decide +kernel
theorem dX5_listen_25 : decode cX5_listen 25 = .ok (.iload_n 1, 1) := by decide +kernel
theorem dX5_listen_26 : decode cX5_listen 26 = .ok (.imul, 1) := by decide +kernel
theorem dX5_listen_27 : decode cX5_listen 27 = .ok (.iload 4, 2) := by decide +kernel
theorem dX5_listen_29 : decode cX5_listen 29 = .ok (.iadd, 1) := by decide +kernel
theorem dX5_listen_30 : decode cX5_listen 30 = .ok (.iaload, 1) := by decide +kernel
theorem dX5_listen_31 : decode cX5_listen 31 = .ok (.aload_n 0, 1) := by decide +kernel
theorem dX5_listen_32 : decode cX5_listen 32 = .ok (.getfield 22, 3) := by decide +kernel
theorem dX5_listen_35 : decode cX5_listen 35 = .ok (.bipush 6, 2) := by decide +kernel
theorem dX5_listen_37 : decode cX5_listen 37 = .ok (.iload_n 1, 1) := by decide +kernel
theorem dX5_listen_38 : decode cX5_listen 38 = .ok (.imul, 1) := by decide +kernel
theorem dX5_listen_39 : decode cX5_listen 39 = .ok (.iload 4, 2) := by decide +kernel
theorem dX5_listen_41 : decode cX5_listen 41 = .ok (.iadd, 1) := by decide +kernel
theorem dX5_listen_42 : decode cX5_listen 42 = .ok (.iaload, 1) := by decide +kernel
theorem dX5_listen_43 : decode cX5_listen 43 = .ok (.isub, 1) := by decide +kernel
theorem dX5_listen_44 : decode cX5_listen 44 = .ok (.aload_n 0, 1) := by decide +kernel
theorem dX5_listen_45 : decode cX5_listen 45 = .ok (.getfield 52, 3) := by decide +kernel
theorem dX5_listen_48 : decode cX5_listen 48 = .ok (.bipush 6, 2) := by decide +kernel
theorem dX5_listen_50 : decode cX5_listen 50 = .ok (.iload_n 3, 1) := by decide +kernel
theorem dX5_listen_51 : decode cX5_listen 51 = .ok (.imul, 1) := by decide +kernel
theorem dX5_listen_52 : decode cX5_listen 52 = .ok (.iload 4, 2) := by decide +kernel
theorem dX5_listen_54 : decode cX5_listen 54 = .ok (.iadd, 1) := by decide +kernel
theorem dX5_listen_55 : decode cX5_listen 55 = .ok (.iaload, 1) := by decide +kernel
theorem dX5_listen_56 : decode cX5_listen 56 = .ok (.bipush 10, 2) := by decide +kernel
theorem dX5_listen_58 : decode cX5_listen 58 = .ok (.idiv, 1) := by decide +kernel
theorem dX5_listen_59 : decode cX5_listen 59 = .ok (.isub, 1) := by decide +kernel
theorem dX5_listen_60 : decode cX5_listen 60 = .ok (.invokestatic 97, 3) := by decide +kernel
theorem dX5_listen_63 : decode cX5_listen 63 = .ok (.istore 5, 2) := by decide +kernel
theorem dX5_listen_65 : decode cX5_listen 65 = .ok (.aload_n 0, 1) := by decide +kernel
theorem dX5_listen_66 : decode cX5_listen 66 = .ok (.getfield 3, 3) := by decide +kernel
theorem dX5_listen_69 : decode cX5_listen 69 = .ok (.getfield 135, 3) := by decide +kernel
theorem dX5_listen_72 : decode cX5_listen 72 = .ok (.bipush 24, 2) := by decide +kernel
theorem dX5_listen_74 : decode cX5_listen 74 = .ok (.iload_n 1, 1) := by decide +kernel
theorem dX5_listen_75 : decode cX5_listen 75 = .ok (.imul, 1) := by decide +kernel
theorem dX5_listen_76 : decode cX5_listen 76 = .ok (.aload_n 0, 1) := by decide +kernel
theorem dX5_listen_77 : decode cX5_listen 77 = .ok (.getfield 74, 3) := by decide +kernel
theorem dX5_listen_80 : decode cX5_listen 80 = .ok (.bipush 24, 2) := by decide +kernel
theorem dX5_listen_82 : decode cX5_listen 82 = .ok (.irem, 1) := by decide +kernel
theorem dX5_listen_83 : decode cX5_listen 83 = .ok (.iadd, 1) := by decide +kernel
theorem dX5_listen_84 : decode cX5_listen 84 = .ok (.iaload, 1) := by decide +kernel
theorem dX5_listen_85 : decode cX5_listen 85 = .ok (.iload 5, 2) := by decide +kernel
theorem dX5_listen_87 : decode cX5_listen 87 = .ok (.imul, 1) := by decide +kernel
theorem dX5_listen_88 : decode cX5_listen 88 = .ok (.bipush 10, 2) := by decide +kernel
theorem dX5_listen_90 : decode cX5_listen 90 = .ok (.idiv, 1) := by decide +kernel
theorem dX5_listen_91 : decode cX5_listen 91 = .ok (.istore 6, 2) := by decide +kernel
theorem dX5_listen_93 : decode cX5_listen 93 = .ok (.aload_n 0, 1) := by decide +kernel
theorem dX5_listen_94 : decode cX5_listen 94 = .ok (.getfield 43, 3) := by decide +kernel
theorem dX5_listen_97 : decode cX5_listen 97 = .ok (.iload_n 3, 1) := by decide +kernel
theorem dX5_listen_98 : decode cX5_listen 98 = .ok (.dup2, 1) := by decide +kernel
theorem dX5_listen_99 : decode cX5_listen 99 = .ok (.iaload, 1) := by decide +kernel
theorem dX5_listen_100 : decode cX5_listen 100 = .ok (.iload 6, 2) := by decide +kernel
theorem dX5_listen_102 : decode cX5_listen 102 = .ok (.iadd, 1) := by decide +kernel
theorem dX5_listen_103 : decode cX5_listen 103 = .ok (.iastore, 1) := by decide +kernel
theorem dX5_listen_104 : decode cX5_listen 104 = .ok (.aload_n 0, 1) := by decide +kernel
theorem dX5_listen_105 : decode cX5_listen 105 = .ok (.getfield 25, 3) := by decide +kernel
theorem dX5_listen_108 : decode cX5_listen 108 = .ok (.iload_n 1, 1) := by decide +kernel
theorem dX5_listen_109 : decode cX5_listen 109 = .ok (.dup2, 1) := by decide +kernel
theorem dX5_listen_110 : decode cX5_listen 110 = .ok (.iaload, 1) := by decide +kernel
theorem dX5_listen_111 : decode cX5_listen 111 = .ok (.iload 6, 2) := by decide +kernel
theorem dX5_listen_113 : decode cX5_listen 113 = .ok (.iadd, 1) := by decide +kernel
theorem dX5_listen_114 : decode cX5_listen 114 = .ok (.iastore, 1) := by decide +kernel
theorem dX5_listen_115 : decode cX5_listen 115 = .ok (.aload_n 0, 1) := by decide +kernel
theorem dX5_listen_116 : decode cX5_listen 116 = .ok (.iload_n 1, 1) := by decide +kernel
theorem dX5_listen_117 : decode cX5_listen 117 = .ok (.iload_n 2, 1) := by decide +kernel
theorem dX5_listen_118 : decode cX5_listen 118 = .ok (.invokevirtual 105, 3) := by decide +kernel
theorem dX5_listen_121 : decode cX5_listen 121 = .ok (.istore 4, 2) := by decide +kernel
theorem dX5_listen_123 : decode cX5_listen 123 = .ok (.iconst 0, 1) := by decide +kernel
theorem dX5_listen_124 : decode cX5_listen 124 = .ok (.istore 5, 2) := by decide +kernel
theorem dX5_listen_126 : decode cX5_listen 126 = .ok (.iload 5, 2) := by decide +kernel
theorem dX5_listen_128 : decode cX5_listen 128 = .ok (.aload_n 0, 1) := by decide +kernel
theorem dX5_listen_129 : decode cX5_listen 129 = .ok (.getfield 81, 3) := by decide +kernel
theorem dX5_listen_132 : decode cX5_listen 132 = .ok (.if_icmp .ge 57, 3) := by decide +kernel
theorem dX5_listen_135 : decode cX5_listen 135 = .ok (.iload_n 3, 1) := by decide +kernel
theorem dX5_listen_136 : decode cX5_listen 136 = .ok (.bipush (-2), 2) := by decide +kernel
theorem dX5_listen_138 : decode cX5_listen 138 = .ok (.if_icmp .ne 51, 3) := by decide +kernel
theorem dX5_listen_141 : decode cX5_listen 141 = .ok (.aload_n 0, 1) := by decide +kernel
theorem dX5_listen_142 : decode cX5_listen 142 = .ok (.iload 5, 2) := by decide +kernel
theorem dX5_listen_144 : decode cX5_listen 144 = .ok (.iload_n 1, 1) := by decide +kernel
theorem dX5_listen_145 : decode cX5_listen 145 = .ok (.iload_n 2, 1) := by decide +kernel
theorem dX5_listen_146 : decode cX5_listen 146 = .ok (.invokevirtual 101, 3) := by decide +kernel
theorem dX5_listen_149 : decode cX5_listen 149 = .ok (.ifCond .le 34, 3) := by decide +kernel
theorem dX5_listen_152 : decode cX5_listen 152 = .ok (.aload_n 0, 1) := by decide +kernel
theorem dX5_listen_153 : decode cX5_listen 153 = .ok (.iload 5, 2) := by decide +kernel
theorem dX5_listen_155 : decode cX5_listen 155 = .ok (.iload_n 1, 1) := by decide +kernel
theorem dX5_listen_156 : decode cX5_listen 156 = .ok (.iload_n 2, 1) := by decide +kernel
theorem dX5_listen_157 : decode cX5_listen 157 = .ok (.invokevirtual 101, 3) := by decide +kernel
theorem dX5_listen_160 : decode cX5_listen 160 = .ok (.iload 4, 2) := by decide +kernel
theorem dX5_listen_162 : decode cX5_listen 162 = .ok (.iconst 1, 1) := by decide +kernel
theorem dX5_listen_163 : decode cX5_listen 163 = .ok (.isub, 1) := by decide +kernel
theorem dX5_listen_164 : decode cX5_listen 164 = .ok (.if_icmp .lt 19, 3) := by decide +kernel
theorem dX5_listen_167 : decode cX5_listen 167 = .ok (.aload_n 0, 1) := by decide +kernel
theorem dX5_listen_168 : decode cX5_listen 168 = .ok (.getfield 55, 3) := by decide +kernel
theorem dX5_listen_171 : decode cX5_listen 171 = .ok (.bipush 6, 2) := by decide +kernel
theorem dX5_listen_173 : decode cX5_listen 173 = .ok (.iload 5, 2) := by decide +kernel
theorem dX5_listen_175 : decode cX5_listen 175 = .ok (.imul, 1) := by decide +kernel
theorem dX5_listen_176 : decode cX5_listen 176 = .ok (.iload_n 1, 1) := by decide +kernel
theorem dX5_listen_177 : decode cX5_listen 177 = .ok (.iadd, 1) := by decide +kernel
theorem dX5_listen_178 : decode cX5_listen 178 = .ok (.dup2, 1) := by decide +kernel
theorem dX5_listen_179 : decode cX5_listen 179 = .ok (.iaload, 1) := by decide +kernel
theorem dX5_listen_180 : decode cX5_listen 180 = .ok (.iconst 1, 1) := by decide +kernel
theorem dX5_listen_181 : decode cX5_listen 181 = .ok (.iadd, 1) := by decide +kernel
theorem dX5_listen_182 : decode cX5_listen 182 = .ok (.iastore, 1) := by decide +kernel
theorem dX5_listen_183 : decode cX5_listen 183 = .ok (.iinc 5 1, 3) := by decide +kernel
theorem dX5_listen_186 : decode cX5_listen 186 = .ok (.goto (-60), 3) := by decide +kernel
theorem dX5_listen_189 : decode cX5_listen 189 = .ok (.return_, 1) := by decide +kernel
set_option maxRecDepth 20000 in
theorem ggX5_tire_X5_tune : GoodIn wsX5_tire wsX5_tune := goodIn_r _ [16, 17, 18, 19, 20, 21, 15, 22, 23, 24, 25, 26, 27, 28, 29, 30, 31, 32, 33, 34, 35, 36, 37, 38, 39, 40, 41, 42, 43] (by decide +kernel) (by decide +kernel)
set_option maxRecDepth 20000 in
theorem gX5_tire_X5_tune : GoodIn wsX5_tire (wsV RX5 122 RX5 yX5_tune wsX5_tune) := goodIn_app (goodIn_of _ (by decide +kernel)) ggX5_tire_X5_tune
theorem dX5_tire_0 : decode cX5_tire 0 = .ok (.iconst 0, 1) := by decide +kernel
theorem dX5_tire_1 : decode cX5_tire 1 = .ok (.istore_n 3, 1) := by decide +kernel
theorem dX5_tire_2 : decode cX5_tire 2 = .ok (.iconst 0, 1) := by decide +kernel
theorem dX5_tire_3 : decode cX5_tire 3 = .ok (.istore 4, 2) := by decide +kernel
theorem dX5_tire_5 : decode cX5_tire 5 = .ok (.iload 4, 2) := by decide +kernel
theorem dX5_tire_7 : decode cX5_tire 7 = .ok (.aload_n 0, 1) := by decide +kernel
theorem dX5_tire_8 : decode cX5_tire 8 = .ok (.getfield 81, 3) := by decide +kernel
theorem dX5_tire_11 : decode cX5_tire 11 = .ok (.if_icmp .ge 48, 3) := by decide +kernel
theorem dX5_tire_14 : decode cX5_tire 14 = .ok (.iload_n 3, 1) := by decide +kernel
theorem dX5_tire_15 : decode cX5_tire 15 = .ok (.aload_n 0, 1) := by decide +kernel
theorem dX5_tire_16 : decode cX5_tire 16 = .ok (.getfield 31, 3) := by decide +kernel
theorem dX5_tire_19 : decode cX5_tire 19 = .ok (.iload 4, 2) := by decide +kernel
theorem dX5_tire_21 : decode cX5_tire 21 = .ok (.iaload, 1) := by decide +kernel
theorem dX5_tire_22 : decode cX5_tire 22 = .ok (.iload_n 1, 1) := by decide +kernel
theorem dX5_tire_23 : decode cX5_tire 23 = .ok (.if_icmp .ne 27, 3) := by decide +kernel
theorem dX5_tire_26 : decode cX5_tire 26 = .ok (.aload_n 0, 1) := by decide +kernel
theorem dX5_tire_27 : decode cX5_tire 27 = .ok (.getfield 37, 3) := by decide +kernel
theorem dX5_tire_30 : decode cX5_tire 30 = .ok (.iload 4, 2) := by decide +kernel
theorem dX5_tire_32 : decode cX5_tire 32 = .ok (.iaload, 1) := by decide +kernel
theorem dX5_tire_33 : decode cX5_tire 33 = .ok (.ifCond .ne 17, 3) := by decide +kernel
theorem dX5_tire_36 : decode cX5_tire 36 = .ok (.aload_n 0, 1) := by decide +kernel
theorem dX5_tire_37 : decode cX5_tire 37 = .ok (.iload 4, 2) := by decide +kernel
theorem dX5_tire_39 : decode cX5_tire 39 = .ok (.invokevirtual 122, 3) := by decide +kernel
theorem dX5_tire_42 : decode cX5_tire 42 = .ok (.iload_n 2, 1) := by decide +kernel
theorem dX5_tire_43 : decode cX5_tire 43 = .ok (.if_icmp .ne 7, 3) := by decide +kernel
theorem dX5_tire_46 : decode cX5_tire 46 = .ok (.iconst 1, 1) := by decide +kernel
theorem dX5_tire_47 : decode cX5_tire 47 = .ok (.goto 4, 3) := by decide +kernel
theorem dX5_tire_50 : decode cX5_tire 50 = .ok (.iconst 0, 1) := by decide +kernel
theorem dX5_tire_51 : decode cX5_tire 51 = .ok (.ior, 1) := by decide +kernel
theorem dX5_tire_52 : decode cX5_tire 52 = .ok (.istore_n 3, 1) := by decide +kernel
theorem dX5_tire_53 : decode cX5_tire 53 = .ok (.iinc 4 1, 3) := by decide +kernel
theorem dX5_tire_56 : decode cX5_tire 56 = .ok (.goto (-51), 3) := by decide +kernel
theorem dX5_tire_59 : decode cX5_tire 59 = .ok (.bipush 6, 2) := by decide +kernel
theorem dX5_tire_61 : decode cX5_tire 61 = .ok (.iload_n 1, 1) := by decide +kernel
theorem dX5_tire_62 : decode cX5_tire 62 = .ok (.imul, 1) := by decide +kernel
theorem dX5_tire_63 : decode cX5_tire 63 = .ok (.iload_n 2, 1) := by decide +kernel
theorem dX5_tire_64 : decode cX5_tire 64 = .ok (.iadd, 1) := by decide +kernel
theorem dX5_tire_65 : decode cX5_tire 65 = .ok (.istore 4, 2) := by decide +kernel
theorem dX5_tire_67 : decode cX5_tire 67 = .ok (.aload_n 0, 1) := by decide +kernel
theorem dX5_tire_68 : decode cX5_tire 68 = .ok (.getfield 22, 3) := by decide +kernel
theorem dX5_tire_71 : decode cX5_tire 71 = .ok (.iload 4, 2) := by decide +kernel
theorem dX5_tire_73 : decode cX5_tire 73 = .ok (.iload_n 3, 1) := by decide +kernel
theorem dX5_tire_74 : decode cX5_tire 74 = .ok (.ifCond .eq 20, 3) := by decide +kernel
theorem dX5_tire_77 : decode cX5_tire 77 = .ok (.bipush 9, 2) := by decide +kernel
theorem dX5_tire_79 : decode cX5_tire 79 = .ok (.aload_n 0, 1) := by decide +kernel
theorem dX5_tire_80 : decode cX5_tire 80 = .ok (.getfield 22, 3) := by decide +kernel
theorem dX5_tire_83 : decode cX5_tire 83 = .ok (.iload 4, 2) := by decide +kernel
theorem dX5_tire_85 : decode cX5_tire 85 = .ok (.iaload, 1) := by decide +kernel
theorem dX5_tire_86 : decode cX5_tire 86 = .ok (.iconst 2, 1) := by decide +kernel
theorem dX5_tire_87 : decode cX5_tire 87 = .ok (.iadd, 1) := by decide +kernel
theorem dX5_tire_88 : decode cX5_tire 88 = .ok (.invokestatic 125, 3) := by decide +kernel
theorem dX5_tire_91 : decode cX5_tire 91 = .ok (.goto 16, 3) := by decide +kernel
theorem dX5_tire_94 : decode cX5_tire 94 = .ok (.iconst 0, 1) := by decide +kernel
theorem dX5_tire_95 : decode cX5_tire 95 = .ok (.aload_n 0, 1) := by decide +kernel
theorem dX5_tire_96 : decode cX5_tire 96 = .ok (.getfield 22, 3) := by decide +kernel
theorem dX5_tire_99 : decode cX5_tire 99 = .ok (.iload 4, 2) := by decide +kernel
theorem dX5_tire_101 : decode cX5_tire 101 = .ok (.iaload, 1) := by decide +kernel
theorem dX5_tire_102 : decode cX5_tire 102 = .ok (.iconst 1, 1) := by decide +kernel
theorem dX5_tire_103 : decode cX5_tire 103 = .ok (.isub, 1) := by decide +kernel
theorem dX5_tire_104 : decode cX5_tire 104 = .ok (.invokestatic 97, 3) := by decide +kernel
theorem dX5_tire_107 : decode cX5_tire 107 = .ok (.iastore, 1) := by decide +kernel
theorem dX5_tire_108 : decode cX5_tire 108 = .ok (.return_, 1) := by decide +kernel
theorem dX5_sweep_0 : decode cX5_sweep 0 = .ok (.iconst 0, 1) := by decide +kernel
theorem dX5_sweep_1 : decode cX5_sweep 1 = .ok (.istore_n 2, 1) := by decide +kernel
theorem dX5_sweep_2 : decode cX5_sweep 2 = .ok (.iconst 1, 1) := by decide +kernel
theorem dX5_sweep_3 : decode cX5_sweep 3 = .ok (.istore_n 3, 1) := by decide +kernel
theorem dX5_sweep_4 : decode cX5_sweep 4 = .ok (.iload_n 3, 1) := by decide +kernel
theorem dX5_sweep_5 : decode cX5_sweep 5 = .ok (.aload_n 0, 1) := by decide +kernel
theorem dX5_sweep_6 : decode cX5_sweep 6 = .ok (.getfield 81, 3) := by decide +kernel
theorem dX5_sweep_9 : decode cX5_sweep 9 = .ok (.if_icmp .ge 40, 3) := by decide +kernel
theorem dX5_sweep_12 : decode cX5_sweep 12 = .ok (.aload_n 0, 1) := by decide +kernel
theorem dX5_sweep_13 : decode cX5_sweep 13 = .ok (.getfield 55, 3) := by decide +kernel
theorem dX5_sweep_16 : decode cX5_sweep 16 = .ok (.bipush 6, 2) := by decide +kernel
theorem dX5_sweep_18 : decode cX5_sweep 18 = .ok (.iload_n 3, 1) := by decide +kernel
theorem dX5_sweep_19 : decode cX5_sweep 19 = .ok (.imul, 1) := by decide +kernel
theorem dX5_sweep_20 : decode cX5_sweep 20 = .ok (.iload_n 1, 1) := by decide +kernel
theorem dX5_sweep_21 : decode cX5_sweep 21 = .ok (.iadd, 1) := by decide +kernel
theorem dX5_sweep_22 : decode cX5_sweep 22 = .ok (.iaload, 1) := by decide +kernel
theorem dX5_sweep_23 : decode cX5_sweep 23 = .ok (.aload_n 0, 1) := by decide +kernel
theorem dX5_sweep_24 : decode cX5_sweep 24 = .ok (.getfield 55, 3) := by decide +kernel
theorem dX5_sweep_27 : decode cX5_sweep 27 = .ok (.bipush 6, 2) := by decide +kernel
theorem dX5_sweep_29 : decode cX5_sweep 29 = .ok (.iload_n 2, 1) := by decide +kernel
theorem dX5_sweep_30 : decode cX5_sweep 30 = .ok (.imul, 1) := by decide +kernel
theorem dX5_sweep_31 : decode cX5_sweep 31 = .ok (.iload_n 1, 1) := by decide +kernel
theorem dX5_sweep_32 : decode cX5_sweep 32 = .ok (.iadd, 1) := by decide +kernel
theorem dX5_sweep_33 : decode cX5_sweep 33 = .ok (.iaload, 1) := by decide +kernel
theorem dX5_sweep_34 : decode cX5_sweep 34 = .ok (.if_icmp .le 7, 3) := by decide +kernel
theorem dX5_sweep_37 : decode cX5_sweep 37 = .ok (.iload_n 3, 1) := by decide +kernel
theorem dX5_sweep_38 : decode cX5_sweep 38 = .ok (.goto 4, 3) := by decide +kernel
theorem dX5_sweep_41 : decode cX5_sweep 41 = .ok (.iload_n 2, 1) := by decide +kernel
theorem dX5_sweep_42 : decode cX5_sweep 42 = .ok (.istore_n 2, 1) := by decide +kernel
theorem dX5_sweep_43 : decode cX5_sweep 43 = .ok (.iinc 3 1, 3) := by decide +kernel
theorem dX5_sweep_46 : decode cX5_sweep 46 = .ok (.goto (-42), 3) := by decide +kernel
theorem dX5_sweep_49 : decode cX5_sweep 49 = .ok (.aload_n 0, 1) := by decide +kernel
theorem dX5_sweep_50 : decode cX5_sweep 50 = .ok (.getfield 58, 3) := by decide +kernel
theorem dX5_sweep_53 : decode cX5_sweep 53 = .ok (.bipush 6, 2) := by decide +kernel
theorem dX5_sweep_55 : decode cX5_sweep 55 = .ok (.iload_n 2, 1) := by decide +kernel
theorem dX5_sweep_56 : decode cX5_sweep 56 = .ok (.imul, 1) := by decide +kernel
theorem dX5_sweep_57 : decode cX5_sweep 57 = .ok (.iload_n 1, 1) := by decide +kernel
theorem dX5_sweep_58 : decode cX5_sweep 58 = .ok (.iadd, 1) := by decide +kernel
theorem dX5_sweep_59 : decode cX5_sweep 59 = .ok (.bipush 24, 2) := by decide +kernel
theorem dX5_sweep_61 : decode cX5_sweep 61 = .ok (.iastore, 1) := by decide +kernel
theorem dX5_sweep_62 : decode cX5_sweep 62 = .ok (.aload_n 0, 1) := by decide +kernel
theorem dX5_sweep_63 : decode cX5_sweep 63 = .ok (.getfield 65, 3) := by decide +kernel
theorem dX5_sweep_66 : decode cX5_sweep 66 = .ok (.bipush 6, 2) := by decide +kernel
theorem dX5_sweep_68 : decode cX5_sweep 68 = .ok (.iload_n 2, 1) := by decide +kernel
theorem dX5_sweep_69 : decode cX5_sweep 69 = .ok (.imul, 1) := by decide +kernel
theorem dX5_sweep_70 : decode cX5_sweep 70 = .ok (.iload_n 1, 1) := by decide +kernel
theorem dX5_sweep_71 : decode cX5_sweep 71 = .ok (.iadd, 1) := by decide +kernel
theorem dX5_sweep_72 : decode cX5_sweep 72 = .ok (.iconst 1, 1) := by decide +kernel
theorem dX5_sweep_73 : decode cX5_sweep 73 = .ok (.bastore, 1) := by decide +kernel
theorem dX5_sweep_74 : decode cX5_sweep 74 = .ok (.aload_n 0, 1) := by decide +kernel
theorem dX5_sweep_75 : decode cX5_sweep 75 = .ok (.getfield 28, 3) := by decide +kernel
theorem dX5_sweep_78 : decode cX5_sweep 78 = .ok (.iload_n 1, 1) := by decide +kernel
theorem dX5_sweep_79 : decode cX5_sweep 79 = .ok (.dup2, 1) := by decide +kernel
theorem dX5_sweep_80 : decode cX5_sweep 80 = .ok (.iaload, 1) := by decide +kernel
theorem dX5_sweep_81 : decode cX5_sweep 81 = .ok (.iconst 1, 1) := by decide +kernel
theorem dX5_sweep_82 : decode cX5_sweep 82 = .ok (.iadd, 1) := by decide +kernel
theorem dX5_sweep_83 : decode cX5_sweep 83 = .ok (.iastore, 1) := by decide +kernel
theorem dX5_sweep_84 : decode cX5_sweep 84 = .ok (.iconst 0, 1) := by decide +kernel
theorem dX5_sweep_85 : decode cX5_sweep 85 = .ok (.istore_n 3, 1) := by decide +kernel
theorem dX5_sweep_86 : decode cX5_sweep 86 = .ok (.iload_n 3, 1) := by decide +kernel
theorem dX5_sweep_87 : decode cX5_sweep 87 = .ok (.aload_n 0, 1) := by decide +kernel
theorem dX5_sweep_88 : decode cX5_sweep 88 = .ok (.getfield 81, 3) := by decide +kernel
theorem dX5_sweep_91 : decode cX5_sweep 91 = .ok (.if_icmp .ge 21, 3) := by decide +kernel
theorem dX5_sweep_94 : decode cX5_sweep 94 = .ok (.aload_n 0, 1) := by decide +kernel
theorem dX5_sweep_95 : decode cX5_sweep 95 = .ok (.getfield 55, 3) := by decide +kernel
theorem dX5_sweep_98 : decode cX5_sweep 98 = .ok (.bipush 6, 2) := by decide +kernel
theorem dX5_sweep_100 : decode cX5_sweep 100 = .ok (.iload_n 3, 1) := by decide +kernel
theorem dX5_sweep_101 : decode cX5_sweep 101 = .ok (.imul, 1) := by decide +kernel
theorem dX5_sweep_102 : decode cX5_sweep 102 = .ok (.iload_n 1, 1) := by decide +kernel
theorem dX5_sweep_103 : decode cX5_sweep 103 = .ok (.iadd, 1) := by decide +kernel
theorem dX5_sweep_104 : decode cX5_sweep 104 = .ok (.iconst 0, 1) := by decide +kernel
theorem dX5_sweep_105 : decode cX5_sweep 105 = .ok (.iastore, 1) := by decide +kernel
theorem dX5_sweep_106 : decode cX5_sweep 106 = .ok (.iinc 3 1, 3) := by decide +kernel
theorem dX5_sweep_109 : decode cX5_sweep 109 = .ok (.goto (-23), 3) := by decide +kernel
theorem dX5_sweep_112 : decode cX5_sweep 112 = .ok (.aload_n 0, 1) := by decide +kernel
theorem dX5_sweep_113 : decode cX5_sweep 113 = .ok (.getfield 31, 3) := by decide +kernel
theorem dX5_sweep_116 : decode cX5_sweep 116 = .ok (.iload_n 2, 1) := by decide +kernel
theorem dX5_sweep_117 : decode cX5_sweep 117 = .ok (.iaload, 1) := by decide +kernel
theorem dX5_sweep_118 : decode cX5_sweep 118 = .ok (.iload_n 1, 1) := by decide +kernel
theorem dX5_sweep_119 : decode cX5_sweep 119 = .ok (.if_icmp .ne 12, 3) := by decide +kernel
theorem dX5_sweep_122 : decode cX5_sweep 122 = .ok (.aload_n 0, 1) := by decide +kernel
theorem dX5_sweep_123 : decode cX5_sweep 123 = .ok (.getfield 37, 3) := by decide +kernel
theorem dX5_sweep_126 : decode cX5_sweep 126 = .ok (.iload_n 2, 1) := by decide +kernel
theorem dX5_sweep_127 : decode cX5_sweep 127 = .ok (.iaload, 1) := by decide +kernel
theorem dX5_sweep_128 : decode cX5_sweep 128 = .ok (.ifCond .le 4, 3) := by decide +kernel
theorem dX5_sweep_131 : decode cX5_sweep 131 = .ok (.return_, 1) := by decide +kernel
theorem dX5_sweep_132 : decode cX5_sweep 132 = .ok (.iload_n 1, 1) := by decide +kernel
theorem dX5_sweep_133 : decode cX5_sweep 133 = .ok (.istore_n 3, 1) := by decide +kernel
theorem dX5_sweep_134 : decode cX5_sweep 134 = .ok (.aload_n 0, 1) := by decide +kernel
theorem dX5_sweep_135 : decode cX5_sweep 135 = .ok (.getfield 78, 3) := by decide +kernel
theorem dX5_sweep_138 : decode cX5_sweep 138 = .ok (.iconst 1, 1) := by decide +kernel
theorem dX5_sweep_139 : decode cX5_sweep 139 = .ok (.isub, 1) := by decide +kernel
theorem dX5_sweep_140 : decode cX5_sweep 140 = .ok (.istore 4, 2) := by decide +kernel
theorem dX5_sweep_142 : decode cX5_sweep 142 = .ok (.iload 4, 2) := by decide +kernel
theorem dX5_sweep_144 : decode cX5_sweep 144 = .ok (.ifCond .le 41, 3) := by decide +kernel
theorem dX5_sweep_147 : decode cX5_sweep 147 = .ok (.aload_n 0, 1) := by decide +kernel
theorem dX5_sweep_148 : decode cX5_sweep 148 = .ok (.getfield 58, 3) := by decide +kernel
theorem dX5_sweep_151 : decode cX5_sweep 151 = .ok (.bipush 6, 2) := by decide +kernel
theorem dX5_sweep_153 : decode cX5_sweep 153 = .ok (.iload_n 2, 1) := by decide +kernel
theorem dX5_sweep_154 : decode cX5_sweep 154 = .ok (.imul, 1) := by decide +kernel
theorem dX5_sweep_155 : decode cX5_sweep 155 = .ok (.iload_n 1, 1) := by decide +kernel
theorem dX5_sweep_156 : decode cX5_sweep 156 = .ok (.iload 4, 2) := by decide +kernel
theorem dX5_sweep_158 : decode cX5_sweep 158 = .ok (.iadd, 1) := by decide +kernel
theorem dX5_sweep_159 : decode cX5_sweep 159 = .ok (.aload_n 0, 1) := by decide +kernel
theorem dX5_sweep_160 : decode cX5_sweep 160 = .ok (.getfield 78, 3) := by decide +kernel
theorem dX5_sweep_163 : decode cX5_sweep 163 = .ok (.irem, 1) := by decide +kernel
theorem dX5_sweep_164 : decode cX5_sweep 164 = .ok (.iadd, 1) := by decide +kernel
theorem dX5_sweep_165 : decode cX5_sweep 165 = .ok (.iaload, 1) := by decide +kernel
theorem dX5_sweep_166 : decode cX5_sweep 166 = .ok (.ifCond .ne 13, 3) := by decide +kernel
theorem dX5_sweep_169 : decode cX5_sweep 169 = .ok (.iload_n 1, 1) := by decide +kernel
theorem dX5_sweep_170 : decode cX5_sweep 170 = .ok (.iload 4, 2) := by decide +kernel
theorem dX5_sweep_172 : decode cX5_sweep 172 = .ok (.iadd, 1) := by decide +kernel
theorem dX5_sweep_173 : decode cX5_sweep 173 = .ok (.aload_n 0, 1) := by decide +kernel
theorem dX5_sweep_174 : decode cX5_sweep 174 = .ok (.getfield 78, 3) := by decide +kernel
theorem dX5_sweep_177 : decode cX5_sweep 177 = .ok (.irem, 1) := by decide +kernel
theorem dX5_sweep_178 : decode cX5_sweep 178 = .ok (.istore_n 3, 1) := by decide +kernel
theorem dX5_sweep_179 : decode cX5_sweep 179 = .ok (.iinc 4 (-1), 3) := by decide +kernel
theorem dX5_sweep_182 : decode cX5_sweep 182 = .ok (.goto (-40), 3) := by decide +kernel
theorem dX5_sweep_185 : decode cX5_sweep 185 = .ok (.aload_n 0, 1) := by decide +kernel
theorem dX5_sweep_186 : decode cX5_sweep 186 = .ok (.getfield 31, 3) := by decide +kernel
theorem dX5_sweep_189 : decode cX5_sweep 189 = .ok (.iload_n 2, 1) := by decide +kernel
theorem dX5_sweep_190 : decode cX5_sweep 190 = .ok (.iload_n 3, 1) := by decide +kernel
theorem dX5_sweep_191 : decode cX5_sweep 191 = .ok (.iastore, 1) := by decide +kernel
theorem dX5_sweep_192 : decode cX5_sweep 192 = .ok (.aload_n 0, 1) := by decide +kernel
theorem dX5_sweep_193 : decode cX5_sweep 193 = .ok (.getfield 34, 3) := by decide +kernel
theorem dX5_sweep_196 : decode cX5_sweep 196 = .ok (.iload_n 2, 1) := by decide +kernel
theorem dX5_sweep_197 : decode cX5_sweep 197 = .ok (.iconst 0, 1) := by decide +kernel
theorem dX5_sweep_198 : decode cX5_sweep 198 = .ok (.iastore, 1) := by decide +kernel
theorem dX5_sweep_199 : decode cX5_sweep 199 = .ok (.aload_n 0, 1) := by decide +kernel
theorem dX5_sweep_200 : decode cX5_sweep 200 = .ok (.getfield 37, 3) := by decide +kernel
theorem dX5_sweep_203 : decode cX5_sweep 203 = .ok (.iload_n 2, 1) := by decide +kernel
theorem dX5_sweep_204 : decode cX5_sweep 204 = .ok (.iconst 2, 1) := by decide +kernel
theorem dX5_sweep_205 : decode cX5_sweep 205 = .ok (.iastore, 1) := by decide +kernel
theorem dX5_sweep_206 : decode cX5_sweep 206 = .ok (.return_, 1) := by decide +kernel
theorem dX5_over_0 : decode cX5_over 0 = .ok (.iconst 0, 1) := by decide +kernel
theorem dX5_over_1 : decode cX5_over 1 = .ok (.istore_n 2, 1) := by decide +kernel
theorem dX5_over_2 : decode cX5_over 2 = .ok (.iconst 0, 1) := by decide +kernel
theorem dX5_over_3 : decode cX5_over 3 = .ok (.istore_n 3, 1) := by decide +kernel
theorem dX5_over_4 : decode cX5_over 4 = .ok (.iload_n 3, 1) := by decide +kernel
theorem dX5_over_5 : decode cX5_over 5 = .ok (.aload_n 0, 1) := by decide +kernel
theorem dX5_over_6 : decode cX5_over 6 = .ok (.getfield 81, 3) := by decide +kernel
theorem dX5_over_9 : decode cX5_over 9 = .ok (.if_icmp .ge 15, 3) := by decide +kernel
theorem dX5_over_12 : decode cX5_over 12 = .ok (.iload_n 2, 1) := by decide +kernel
theorem dX5_over_13 : decode cX5_over 13 = .ok (.aload_n 1, 1) := by decide +kernel
theorem dX5_over_14 : decode cX5_over 14 = .ok (.iload_n 3, 1) := by decide +kernel
theorem dX5_over_15 : decode cX5_over 15 = .ok (.iaload, 1) := by decide +kernel
theorem dX5_over_16 : decode cX5_over 16 = .ok (.iadd, 1) := by decide +kernel
theorem dX5_over_17 : decode cX5_over 17 = .ok (.istore_n 2, 1) := by decide +kernel
theorem dX5_over_18 : decode cX5_over 18 = .ok (.iinc 3 1, 3) := by decide +kernel
theorem dX5_over_21 : decode cX5_over 21 = .ok (.goto (-17), 3) := by decide +kernel
theorem dX5_over_24 : decode cX5_over 24 = .ok (.iload_n 2, 1) := by decide +kernel
theorem dX5_over_25 : decode cX5_over 25 = .ok (.ireturn, 1) := by decide +kernel
theorem dX5_banishments_0 : decode cX5_banishments 0 = .ok (.iconst 0, 1) := by decide +kernel
theorem dX5_banishments_1 : decode cX5_banishments 1 = .ok (.istore_n 2, 1) := by decide +kernel
theorem dX5_banishments_2 : decode cX5_banishments 2 = .ok (.iconst 0, 1) := by decide +kernel
theorem dX5_banishments_3 : decode cX5_banishments 3 = .ok (.istore_n 3, 1) := by decide +kernel
theorem dX5_banishments_4 : decode cX5_banishments 4 = .ok (.iload_n 3, 1) := by decide +kernel
theorem dX5_banishments_5 : decode cX5_banishments 5 = .ok (.aload_n 0, 1) := by decide +kernel
theorem dX5_banishments_6 : decode cX5_banishments 6 = .ok (.getfield 78, 3) := by decide +kernel
theorem dX5_banishments_9 : decode cX5_banishments 9 = .ok (.if_icmp .ge 31, 3) := by decide +kernel
theorem dX5_banishments_12 : decode cX5_banishments 12 = .ok (.iload_n 2, 1) := by decide +kernel
theorem dX5_banishments_13 : decode cX5_banishments 13 = .ok (.aload_n 0, 1) := by decide +kernel
theorem dX5_banishments_14 : decode cX5_banishments 14 = .ok (.getfield 58, 3) := by decide +kernel
theorem dX5_banishments_17 : decode cX5_banishments 17 = .ok (.bipush 6, 2) := by decide +kernel
theorem dX5_banishments_19 : decode cX5_banishments 19 = .ok (.iload_n 1, 1) := by decide +kernel
theorem dX5_banishments_20 : decode cX5_banishments 20 = .ok (.imul, 1) := by decide +kernel
theorem dX5_banishments_21 : decode cX5_banishments 21 = .ok (.iload_n 3, 1) := by decide +kernel
theorem dX5_banishments_22 : decode cX5_banishments 22 = .ok (.iadd, 1) := by decide +kernel
theorem dX5_banishments_23 : decode cX5_banishments 23 = .ok (.iaload, 1) := by decide +kernel
theorem dX5_banishments_24 : decode cX5_banishments 24 = .ok (.ifCond .le 7, 3) := by decide +kernel
theorem dX5_banishments_27 : decode cX5_banishments 27 = .ok (.iconst 1, 1) := by decide +kernel
theorem dX5_banishments_28 : decode cX5_banishments 28 = .ok (.goto 4, 3) := by decide +kernel
theorem dX5_banishments_31 : decode cX5_banishments 31 = .ok (.iconst 0, 1) := by decide +kernel
theorem dX5_banishments_32 : decode cX5_banishments 32 = .ok (.iadd, 1) := by decide +kernel
theorem dX5_banishments_33 : decode cX5_banishments 33 = .ok (.istore_n 2, 1) := by decide +kernel
theorem dX5_banishments_34 : decode cX5_banishments 34 = .ok (.iinc 3 1, 3) := by decide +kernel
theorem dX5_banishments_37 : decode cX5_banishments 37 = .ok (.goto (-33), 3) := by decide +kernel
theorem dX5_banishments_40 : decode cX5_banishments 40 = .ok (.iload_n 2, 1) := by decide +kernel
theorem dX5_banishments_41 : decode cX5_banishments 41 = .ok (.ireturn, 1) := by decide +kernel
set_option maxRecDepth 20000 in
theorem ggX6_init_X5_init : GoodIn wsX6_init wsX5_init := goodIn_r _ [13, 14, 15, 2, 3, 4, 16, 17, 18, 19, 20, 21, 22, 23, 24, 25, 26, 27, 28, 29, 30, 31, 32, 33, 40, 41, 42, 43, 44, 45, 46, 47, 48, 49, 50, 51, 52, 53, 54, 55, 56, 57, 58, 59, 60] (by decide +kernel) (by decide +kernel)
set_option maxRecDepth 20000 in
theorem gX6_init_X5_init_n18 : GoodIn wsX6_init (wsX5_init) := ggX6_init_X5_init
theorem dX6_init_0 : decode cX6_init 0 = .ok (.aload_n 0, 1) := by decide +kernel
theorem dX6_init_1 : decode cX6_init 1 = .ok (.invokespecial 1, 3) := by decide +kernel
theorem dX6_init_4 : decode cX6_init 4 = .ok (.aload_n 0, 1) := by decide +kernel
theorem dX6_init_5 : decode cX6_init 5 = .ok (.sipush 144, 3) := by decide +kernel
theorem dX6_init_8 : decode cX6_init 8 = .ok (.newarray .int, 2) := by decide +kernel
theorem dX6_init_10 : decode cX6_init 10 = .ok (.putfield 9, 3) := by decide +kernel
theorem dX6_init_13 : decode cX6_init 13 = .ok (.aload_n 0, 1) := by decide +kernel
theorem dX6_init_14 : decode cX6_init 14 = .ok (.sipush 1000, 3) := by decide +kernel
theorem dX6_init_17 : decode cX6_init 17 = .ok (.newarray .int, 2) := by decide +kernel
theorem dX6_init_19 : decode cX6_init 19 = .ok (.putfield 13, 3) := by decide +kernel
theorem dX6_init_22 : decode cX6_init 22 = .ok (.aload_n 0, 1) := by decide +kernel
theorem dX6_init_23 : decode cX6_init 23 = .ok (.new 16, 3) := by decide +kernel
theorem dX6_init_26 : decode cX6_init 26 = .ok (.dup, 1) := by decide +kernel
theorem dX6_init_27 : decode cX6_init 27 = .ok (.aload_n 0, 1) := by decide +kernel
theorem dX6_init_28 : decode cX6_init 28 = .ok (.invokespecial 18, 3) := by decide +kernel
theorem dX6_init_31 : decode cX6_init 31 = .ok (.putfield 21, 3) := by decide +kernel
theorem dX6_init_34 : decode cX6_init 34 = .ok (.aload_n 0, 1) := by decide +kernel
theorem dX6_init_35 : decode cX6_init 35 = .ok (.new 16, 3) := by decide +kernel
theorem dX6_init_38 : decode cX6_init 38 = .ok (.dup, 1) := by decide +kernel
theorem dX6_init_39 : decode cX6_init 39 = .ok (.aload_n 0, 1) := by decide +kernel
theorem dX6_init_40 : decode cX6_init 40 = .ok (.invokespecial 18, 3) := by decide +kernel
theorem dX6_init_43 : decode cX6_init 43 = .ok (.putfield 25, 3) := by decide +kernel
theorem dX6_init_46 : decode cX6_init 46 = .ok (.return_, 1) := by decide +kernel
theorem dX6_thrown_0 : decode cX6_thrown 0 = .ok (.aload_n 0, 1) := by decide +kernel
theorem dX6_thrown_1 : decode cX6_thrown 1 = .ok (.getfield 28, 3) := by decide +kernel
theorem dX6_thrown_4 : decode cX6_thrown 4 = .ok (.ireturn, 1) := by decide +kernel
theorem dX6_no_0 : decode cX6_no 0 = .ok (.aload_n 0, 1) := by decide +kernel
theorem dX6_no_1 : decode cX6_no 1 = .ok (.iload_n 1, 1) := by decide +kernel
theorem dX6_no_2 : decode cX6_no 2 = .ok (.putfield 28, 3) := by decide +kernel
theorem dX6_no_5 : decode cX6_no 5 = .ok (.iconst 0, 1) := by decide +kernel
theorem dX6_no_6 : decode cX6_no 6 = .ok (.ireturn, 1) := by decide +kernel
theorem dX6_isIn_0 : decode cX6_isIn 0 = .ok (.iload_n 0, 1) := by decide +kernel
theorem dX6_isIn_1 : decode cX6_isIn 1 = .ok (.iload_n 1, 1) := by decide +kernel
theorem dX6_isIn_2 : decode cX6_isIn 2 = .ok (.if_icmp .lt 12, 3) := by decide +kernel
theorem dX6_isIn_5 : decode cX6_isIn 5 = .ok (.iload_n 0, 1) := by decide +kernel
theorem dX6_isIn_6 : decode cX6_isIn 6 = .ok (.iload_n 2, 1) := by decide +kernel
theorem dX6_isIn_7 : decode cX6_isIn 7 = .ok (.if_icmp .gt 7, 3) := by decide +kernel
theorem dX6_isIn_10 : decode cX6_isIn 10 = .ok (.iconst 1, 1) := by decide +kernel
theorem dX6_isIn_11 : decode cX6_isIn 11 = .ok (.goto 4, 3) := by decide +kernel
theorem dX6_isIn_14 : decode cX6_isIn 14 = .ok (.iconst 0, 1) := by decide +kernel
theorem dX6_isIn_15 : decode cX6_isIn 15 = .ok (.ireturn, 1) := by decide +kernel
set_option maxRecDepth 20000 in
theorem ggX6_isStreet_X6_isIn : GoodIn wsX6_isStreet wsX6_isIn := goodIn_r _ [5] (by decide +kernel) (by decide +kernel)
set_option maxRecDepth 20000 in
theorem gX6_isStreet_X6_isIn : GoodIn wsX6_isStreet (va_wsS RX6 35 yX6_isIn wsX6_isIn) := goodIn_app (goodIn_of _ (by decide +kernel)) ggX6_isStreet_X6_isIn
theorem dX6_isStreet_0 : decode cX6_isStreet 0 = .ok (.iload_n 1, 1) := by decide +kernel
theorem dX6_isStreet_1 : decode cX6_isStreet 1 = .ok (.iconst 0, 1) := by decide +kernel
theorem dX6_isStreet_2 : decode cX6_isStreet 2 = .ok (.aload_n 0, 1) := by decide +kernel
theorem dX6_isStreet_3 : decode cX6_isStreet 3 = .ok (.getfield 21, 3) := by decide +kernel
theorem dX6_isStreet_6 : decode cX6_isStreet 6 = .ok (.getfield 32, 3) := by decide +kernel
theorem dX6_isStreet_9 : decode cX6_isStreet 9 = .ok (.iconst 1, 1) := by decide +kernel
theorem dX6_isStreet_10 : decode cX6_isStreet 10 = .ok (.isub, 1) := by decide +kernel
theorem dX6_isStreet_11 : decode cX6_isStreet 11 = .ok (.invokestatic 35, 3) := by decide +kernel
theorem dX6_isStreet_14 : decode cX6_isStreet 14 = .ok (.ireturn, 1) := by decide +kernel
set_option maxRecDepth 20000 in
theorem ggX6_isOrgan_X6_isIn : GoodIn wsX6_isOrgan wsX6_isIn := goodIn_r _ [5] (by decide +kernel) (by decide +kernel)
set_option maxRecDepth 20000 in
theorem gX6_isOrgan_X6_isIn : GoodIn wsX6_isOrgan (va_wsS RX6 35 yX6_isIn wsX6_isIn) := goodIn_app (goodIn_of _ (by decide +kernel)) ggX6_isOrgan_X6_isIn
theorem dX6_isOrgan_0 : decode cX6_isOrgan 0 = .ok (.iload_n 1, 1) := by decide +kernel
theorem dX6_isOrgan_1 : decode cX6_isOrgan 1 = .ok (.iconst 0, 1) := by decide +kernel
theorem dX6_isOrgan_2 : decode cX6_isOrgan 2 = .ok (.aload_n 0, 1) := by decide +kernel
theorem dX6_isOrgan_3 : decode cX6_isOrgan 3 = .ok (.getfield 21, 3) := by decide +kernel
theorem dX6_isOrgan_6 : decode cX6_isOrgan 6 = .ok (.getfield 39, 3) := by decide +kernel
theorem dX6_isOrgan_9 : decode cX6_isOrgan 9 = .ok (.iconst 1, 1) := by decide +kernel
theorem dX6_isOrgan_10 : decode cX6_isOrgan 10 = .ok (.isub, 1) := by decide +kernel
theorem dX6_isOrgan_11 : decode cX6_isOrgan 11 = .ok (.invokestatic 35, 3) := by decide +kernel
theorem dX6_isOrgan_14 : decode cX6_isOrgan 14 = .ok (.ireturn, 1) := by decide +kernel
set_option maxRecDepth 20000 in
theorem ggX6_isPitch_X6_isStreet : GoodIn wsX6_isPitch wsX6_isStreet := goodIn_r _ [6, 1, 7, 8, 5, 9, 10, 11, 12, 13, 14, 15, 16, 17, 18, 19, 20, 21, 22, 23, 24, 25, 26, 27, 28, 29, 30, 31, 32, 33, 34, 35, 36] (by decide +kernel) (by decide +kernel)
set_option maxRecDepth 20000 in
theorem gX6_isPitch_X6_isStreet : GoodIn wsX6_isPitch (wsV RX6 42 RX6 yX6_isStreet wsX6_isStreet) := goodIn_app (goodIn_of _ (by decide +kernel)) ggX6_isPitch_X6_isStreet
set_option maxRecDepth 20000 in
theorem ggX6_isPitch_X6_isIn : GoodIn wsX6_isPitch wsX6_isIn := goodIn_r _ [9] (by decide +kernel) (by decide +kernel)
set_option maxRecDepth 20000 in
theorem gX6_isPitch_X6_isIn : GoodIn wsX6_isPitch (va_wsS RX6 35 yX6_isIn wsX6_isIn) := goodIn_app (goodIn_of _ (by decide +kernel)) ggX6_isPitch_X6_isIn
theorem dX6_isPitch_0 : decode cX6_isPitch 0 = .ok (.aload_n 0, 1) := by decide +kernel
theorem dX6_isPitch_1 : decode cX6_isPitch 1 = .ok (.iload_n 1, 1) := by decide +kernel
theorem dX6_isPitch_2 : decode cX6_isPitch 2 = .ok (.invokevirtual 42, 3) := by decide +kernel
theorem dX6_isPitch_5 : decode cX6_isPitch 5 = .ok (.ifCond .eq 26, 3) := by decide +kernel
theorem dX6_isPitch_8 : decode cX6_isPitch 8 = .ok (.iload_n 2, 1) := by decide +kernel
theorem dX6_isPitch_9 : decode cX6_isPitch 9 = .ok (.iconst 0, 1) := by decide +kernel
theorem dX6_isPitch_10 : decode cX6_isPitch 10 = .ok (.aload_n 0, 1) := by decide +kernel
theorem dX6_isPitch_11 : decode cX6_isPitch 11 = .ok (.getfield 21, 3) := by decide +kernel
theorem dX6_isPitch_14 : decode cX6_isPitch 14 = .ok (.getfield 46, 3) := by decide +kernel
theorem dX6_isPitch_17 : decode cX6_isPitch 17 = .ok (.iload_n 1, 1) := by decide +kernel
theorem dX6_isPitch_18 : decode cX6_isPitch 18 = .ok (.iaload, 1) := by decide +kernel
theorem dX6_isPitch_19 : decode cX6_isPitch 19 = .ok (.iconst 1, 1) := by decide +kernel
theorem dX6_isPitch_20 : decode cX6_isPitch 20 = .ok (.isub, 1) := by decide +kernel
theorem dX6_isPitch_21 : decode cX6_isPitch 21 = .ok (.invokestatic 35, 3) := by decide +kernel
theorem dX6_isPitch_24 : decode cX6_isPitch 24 = .ok (.ifCond .eq 7, 3) := by decide +kernel
theorem dX6_isPitch_27 : decode cX6_isPitch 27 = .ok (.iconst 1, 1) := by decide +kernel
theorem dX6_isPitch_28 : decode cX6_isPitch 28 = .ok (.goto 4, 3) := by decide +kernel
theorem dX6_isPitch_31 : decode cX6_isPitch 31 = .ok (.iconst 0, 1) := by decide +kernel
theorem dX6_isPitch_32 : decode cX6_isPitch 32 = .ok (.ireturn, 1) := by decide +kernel
set_option maxRecDepth 20000 in
theorem ggX6_build_X6_isIn : GoodIn wsX6_build wsX6_isIn := goodIn_r _ [6] (by decide +kernel) (by decide +kernel)
set_option maxRecDepth 20000 in
theorem gX6_build_X6_isIn : GoodIn wsX6_build (va_wsS RX6 35 yX6_isIn wsX6_isIn) := goodIn_app (goodIn_of _ (by decide +kernel)) ggX6_build_X6_isIn
set_option maxRecDepth 20000 in
theorem ggX6_build_X6_no : GoodIn wsX6_build wsX6_no := goodIn_r _ [10, 1, 11, 12, 13, 14, 15, 16] (by decide +kernel) (by decide +kernel)
set_option maxRecDepth 20000 in
theorem gX6_build_X6_no : GoodIn wsX6_build (wsV RX6 49 RX6 yX6_no wsX6_no) := goodIn_app (goodIn_of _ (by decide +kernel)) ggX6_build_X6_no
theorem dX6_build_0 : decode cX6_build 0 = .ok (.aload_n 0, 1) := by decide +kernel
theorem dX6_build_1 : decode cX6_build 1 = .ok (.iconst 0, 1) := by decide +kernel
theorem dX6_build_2 : decode cX6_build 2 = .ok (.putfield 28, 3) := by decide +kernel
theorem dX6_build_5 : decode cX6_build 5 = .ok (.iload_n 1, 1) := by decide +kernel
theorem dX6_build_6 : decode cX6_build 6 = .ok (.iconst 3, 1) := by decide +kernel
theorem dX6_build_7 : decode cX6_build 7 = .ok (.bipush 20, 2) := by decide +kernel
theorem dX6_build_9 : decode cX6_build 9 = .ok (.invokestatic 35, 3) := by decide +kernel
theorem dX6_build_12 : decode cX6_build 12 = .ok (.ifCond .ne 9, 3) := by decide +kernel
theorem dX6_build_15 : decode cX6_build 15 = .ok (.aload_n 0, 1) := by decide +kernel
theorem dX6_build_16 : decode cX6_build 16 = .ok (.iconst 1, 1) := by decide +kernel
theorem dX6_build_17 : decode cX6_build 17 = .ok (.invokevirtual 49, 3) := by decide +kernel
theorem dX6_build_20 : decode cX6_build 20 = .ok (.ireturn, 1) := by decide +kernel
theorem dX6_build_21 : decode cX6_build 21 = .ok (.aload_n 0, 1) := by decide +kernel
theorem dX6_build_22 : decode cX6_build 22 = .ok (.getfield 21, 3) := by decide +kernel
theorem dX6_build_25 : decode cX6_build 25 = .ok (.getfield 32, 3) := by decide +kernel
theorem dX6_build_28 : decode cX6_build 28 = .ok (.bipush 6, 2) := by decide +kernel
theorem dX6_build_30 : decode cX6_build 30 = .ok (.if_icmp .ne 9, 3) := by decide +kernel
theorem dX6_build_33 : decode cX6_build 33 = .ok (.aload_n 0, 1) := by decide +kernel
theorem dX6_build_34 : decode cX6_build 34 = .ok (.iconst 2, 1) := by decide +kernel
theorem dX6_build_35 : decode cX6_build 35 = .ok (.invokevirtual 49, 3) := by decide +kernel
theorem dX6_build_38 : decode cX6_build 38 = .ok (.ireturn, 1) := by decide +kernel
theorem dX6_build_39 : decode cX6_build 39 = .ok (.aload_n 0, 1) := by decide +kernel
theorem dX6_build_40 : decode cX6_build 40 = .ok (.getfield 21, 3) := by decide +kernel
theorem dX6_build_43 : decode cX6_build 43 = .ok (.getfield 46, 3) := by decide +kernel
theorem dX6_build_46 : decode cX6_build 46 = .ok (.aload_n 0, 1) := by decide +kernel
theorem dX6_build_47 : decode cX6_build 47 = .ok (.getfield 21, 3) := by decide +kernel
theorem dX6_build_50 : decode cX6_build 50 = .ok (.getfield 32, 3) := by decide +kernel
theorem dX6_build_53 : decode cX6_build 53 = .ok (.iload_n 1, 1) := by decide +kernel
theorem dX6_build_54 : decode cX6_build 54 = .ok (.iastore, 1) := by decide +kernel
theorem dX6_build_55 : decode cX6_build 55 = .ok (.iconst 0, 1) := by decide +kernel
theorem dX6_build_56 : decode cX6_build 56 = .ok (.istore_n 2, 1) := by decide +kernel
theorem dX6_build_57 : decode cX6_build 57 = .ok (.iload_n 2, 1) := by decide +kernel
theorem dX6_build_58 : decode cX6_build 58 = .ok (.bipush 6, 2) := by decide +kernel
theorem dX6_build_60 : decode cX6_build 60 = .ok (.if_icmp .ge 30, 3) := by decide +kernel
theorem dX6_build_63 : decode cX6_build 63 = .ok (.aload_n 0, 1) := by decide +kernel
theorem dX6_build_64 : decode cX6_build 64 = .ok (.getfield 21, 3) := by decide +kernel
theorem dX6_build_67 : decode cX6_build 67 = .ok (.getfield 53, 3) := by decide +kernel
theorem dX6_build_70 : decode cX6_build 70 = .ok (.bipush 6, 2) := by decide +kernel
theorem dX6_build_72 : decode cX6_build 72 = .ok (.aload_n 0, 1) := by decide +kernel
theorem dX6_build_73 : decode cX6_build 73 = .ok (.getfield 21, 3) := by decide +kernel
theorem dX6_build_76 : decode cX6_build 76 = .ok (.getfield 32, 3) := by decide +kernel
theorem dX6_build_79 : decode cX6_build 79 = .ok (.imul, 1) := by decide +kernel
theorem dX6_build_80 : decode cX6_build 80 = .ok (.iload_n 2, 1) := by decide +kernel
theorem dX6_build_81 : decode cX6_build 81 = .ok (.iadd, 1) := by decide +kernel
theorem dX6_build_82 : decode cX6_build 82 = .ok (.iconst 5, 1) := by decide +kernel
theorem dX6_build_83 : decode cX6_build 83 = .ok (.iastore, 1) := by decide +kernel
theorem dX6_build_84 : decode cX6_build 84 = .ok (.iinc 2 1, 3) := by decide +kernel
theorem dX6_build_87 : decode cX6_build 87 = .ok (.goto (-30), 3) := by decide +kernel
theorem dX6_build_90 : decode cX6_build 90 = .ok (.aload_n 0, 1) := by decide +kernel
theorem dX6_build_91 : decode cX6_build 91 = .ok (.getfield 21, 3) := by decide +kernel
theorem dX6_build_94 : decode cX6_build 94 = .ok (.dup, 1) := by decide +kernel
theorem dX6_build_95 : decode cX6_build 95 = .ok (.getfield 32, 3) := by decide +kernel
theorem dX6_build_98 : decode cX6_build 98 = .ok (.iconst 1, 1) := by decide +kernel
theorem dX6_build_99 : decode cX6_build 99 = .ok (.iadd, 1) := by decide +kernel
theorem dX6_build_100 : decode cX6_build 100 = .ok (.putfield 32, 3) := by decide +kernel
theorem dX6_build_103 : decode cX6_build 103 = .ok (.aload_n 0, 1) := by decide +kernel
theorem dX6_build_104 : decode cX6_build 104 = .ok (.getfield 21, 3) := by decide +kernel
theorem dX6_build_107 : decode cX6_build 107 = .ok (.getfield 32, 3) := by decide +kernel
theorem dX6_build_110 : decode cX6_build 110 = .ok (.iconst 1, 1) := by decide +kernel
theorem dX6_build_111 : decode cX6_build 111 = .ok (.isub, 1) := by decide +kernel
theorem dX6_build_112 : decode cX6_build 112 = .ok (.ireturn, 1) := by decide +kernel
set_option maxRecDepth 20000 in
theorem ggX6_setPassers_X6_isStreet : GoodIn wsX6_setPassers wsX6_isStreet := goodIn_r _ [7, 8, 9, 10, 6, 11, 16, 17, 18, 19, 20, 21, 22, 23, 24, 25, 26, 27, 28, 29, 30, 31, 32, 33, 34, 35, 36, 37, 38, 39, 40, 41, 42] (by decide +kernel) (by decide +kernel)
set_option maxRecDepth 20000 in
theorem gX6_setPassers_X6_isStreet : GoodIn wsX6_setPassers (wsV RX6 42 RX6 yX6_isStreet wsX6_isStreet) := goodIn_app (goodIn_of _ (by decide +kernel)) ggX6_setPassers_X6_isStreet
set_option maxRecDepth 20000 in
theorem ggX6_setPassers_X6_isIn : GoodIn wsX6_setPassers wsX6_isIn := goodIn_r _ [11] (by decide +kernel) (by decide +kernel)
set_option maxRecDepth 20000 in
theorem gX6_setPassers_X6_isIn : GoodIn wsX6_setPassers (va_wsS RX6 35 yX6_isIn wsX6_isIn) := goodIn_app (goodIn_of _ (by decide +kernel)) ggX6_setPassers_X6_isIn
set_option maxRecDepth 20000 in
theorem ggX6_setPassers_X6_no : GoodIn wsX6_setPassers wsX6_no := goodIn_r _ [15, 1, 16, 17, 18, 19, 20, 21] (by decide +kernel) (by decide +kernel)
set_option maxRecDepth 20000 in
theorem gX6_setPassers_X6_no : GoodIn wsX6_setPassers (wsV RX6 49 RX6 yX6_no wsX6_no) := goodIn_app (goodIn_of _ (by decide +kernel)) ggX6_setPassers_X6_no
theorem dX6_setPassers_0 : decode cX6_setPassers 0 = .ok (.aload_n 0, 1) := by decide +kernel
theorem dX6_setPassers_1 : decode cX6_setPassers 1 = .ok (.iconst 0, 1) := by decide +kernel
theorem dX6_setPassers_2 : decode cX6_setPassers 2 = .ok (.putfield 28, 3) := by decide +kernel
theorem dX6_setPassers_5 : decode cX6_setPassers 5 = .ok (.aload_n 0, 1) := by decide +kernel
theorem dX6_setPassers_6 : decode cX6_setPassers 6 = .ok (.iload_n 1, 1) := by decide +kernel
theorem dX6_setPassers_7 : decode cX6_setPassers 7 = .ok (.invokevirtual 42, 3) := by decide +kernel
theorem dX6_setPassers_10 : decode cX6_setPassers 10 = .ok (.ifCond .eq 13, 3) := by decide +kernel
theorem dX6_setPassers_13 : decode cX6_setPassers 13 = .ok (.iload_n 2, 1) := by decide +kernel
theorem dX6_setPassers_14 : decode cX6_setPassers 14 = .ok (.iconst 0, 1) := by decide +kernel
theorem dX6_setPassers_15 : decode cX6_setPassers 15 = .ok (.bipush 23, 2) := by decide +kernel
theorem dX6_setPassers_17 : decode cX6_setPassers 17 = .ok (.invokestatic 35, 3) := by decide +kernel
theorem dX6_setPassers_20 : decode cX6_setPassers 20 = .ok (.ifCond .ne 9, 3) := by decide +kernel
theorem dX6_setPassers_23 : decode cX6_setPassers 23 = .ok (.aload_n 0, 1) := by decide +kernel
theorem dX6_setPassers_24 : decode cX6_setPassers 24 = .ok (.iconst 1, 1) := by decide +kernel
theorem dX6_setPassers_25 : decode cX6_setPassers 25 = .ok (.invokevirtual 49, 3) := by decide +kernel
theorem dX6_setPassers_28 : decode cX6_setPassers 28 = .ok (.ireturn, 1) := by decide +kernel
theorem dX6_setPassers_29 : decode cX6_setPassers 29 = .ok (.iload_n 3, 1) := by decide +kernel
theorem dX6_setPassers_30 : decode cX6_setPassers 30 = .ok (.iconst 0, 1) := by decide +kernel
theorem dX6_setPassers_31 : decode cX6_setPassers 31 = .ok (.bipush 99, 2) := by decide +kernel
theorem dX6_setPassers_33 : decode cX6_setPassers 33 = .ok (.invokestatic 35, 3) := by decide +kernel
theorem dX6_setPassers_36 : decode cX6_setPassers 36 = .ok (.ifCond .ne 9, 3) := by decide +kernel
theorem dX6_setPassers_39 : decode cX6_setPassers 39 = .ok (.aload_n 0, 1) := by decide +kernel
theorem dX6_setPassers_40 : decode cX6_setPassers 40 = .ok (.iconst 2, 1) := by decide +kernel
theorem dX6_setPassers_41 : decode cX6_setPassers 41 = .ok (.invokevirtual 49, 3) := by decide +kernel
theorem dX6_setPassers_44 : decode cX6_setPassers 44 = .ok (.ireturn, 1) := by decide +kernel
theorem dX6_setPassers_45 : decode cX6_setPassers 45 = .ok (.aload_n 0, 1) := by decide +kernel
theorem dX6_setPassers_46 : decode cX6_setPassers 46 = .ok (.getfield 9, 3) := by decide +kernel
theorem dX6_setPassers_49 : decode cX6_setPassers 49 = .ok (.bipush 24, 2) := by decide +kernel
theorem dX6_setPassers_51 : decode cX6_setPassers 51 = .ok (.iload_n 1, 1) := by decide +kernel
theorem dX6_setPassers_52 : decode cX6_setPassers 52 = .ok (.imul, 1) := by decide +kernel
theorem dX6_setPassers_53 : decode cX6_setPassers 53 = .ok (.iload_n 2, 1) := by decide +kernel
theorem dX6_setPassers_54 : decode cX6_setPassers 54 = .ok (.iadd, 1) := by decide +kernel
theorem dX6_setPassers_55 : decode cX6_setPassers 55 = .ok (.iaload, 1) := by decide +kernel
theorem dX6_setPassers_56 : decode cX6_setPassers 56 = .ok (.istore 4, 2) := by decide +kernel
theorem dX6_setPassers_58 : decode cX6_setPassers 58 = .ok (.aload_n 0, 1) := by decide +kernel
theorem dX6_setPassers_59 : decode cX6_setPassers 59 = .ok (.getfield 9, 3) := by decide +kernel
theorem dX6_setPassers_62 : decode cX6_setPassers 62 = .ok (.bipush 24, 2) := by decide +kernel
theorem dX6_setPassers_64 : decode cX6_setPassers 64 = .ok (.iload_n 1, 1) := by decide +kernel
theorem dX6_setPassers_65 : decode cX6_setPassers 65 = .ok (.imul, 1) := by decide +kernel
theorem dX6_setPassers_66 : decode cX6_setPassers 66 = .ok (.iload_n 2, 1) := by decide +kernel
theorem dX6_setPassers_67 : decode cX6_setPassers 67 = .ok (.iadd, 1) := by decide +kernel
theorem dX6_setPassers_68 : decode cX6_setPassers 68 = .ok (.iload_n 3, 1) := by decide +kernel
theorem dX6_setPassers_69 : decode cX6_setPassers 69 = .ok (.iastore, 1) := by decide +kernel
theorem dX6_setPassers_70 : decode cX6_setPassers 70 = .ok (.iload 4, 2) := by decide +kernel
theorem dX6_setPassers_72 : decode cX6_setPassers 72 = .ok (.ireturn, 1) := by decide +kernel
set_option maxRecDepth 20000 in
theorem ggX6_setTaste_X6_isStreet : GoodIn wsX6_setTaste wsX6_isStreet := goodIn_r _ [7, 2, 8, 9, 6, 10, 15, 16, 17, 18, 19, 20, 21, 22, 23, 24, 25, 26, 27, 28, 29, 30, 31, 32, 33, 34, 35, 36, 37, 38, 39, 40, 41] (by decide +kernel) (by decide +kernel)
set_option maxRecDepth 20000 in
theorem gX6_setTaste_X6_isStreet : GoodIn wsX6_setTaste (wsV RX6 42 RX6 yX6_isStreet wsX6_isStreet) := goodIn_app (goodIn_of _ (by decide +kernel)) ggX6_setTaste_X6_isStreet
set_option maxRecDepth 20000 in
theorem ggX6_setTaste_X6_isIn : GoodIn wsX6_setTaste wsX6_isIn := goodIn_r _ [10] (by decide +kernel) (by decide +kernel)
set_option maxRecDepth 20000 in
theorem gX6_setTaste_X6_isIn : GoodIn wsX6_setTaste (va_wsS RX6 35 yX6_isIn wsX6_isIn) := goodIn_app (goodIn_of _ (by decide +kernel)) ggX6_setTaste_X6_isIn
set_option maxRecDepth 20000 in
theorem ggX6_setTaste_X6_no : GoodIn wsX6_setTaste wsX6_no := goodIn_r _ [14, 1, 15, 16, 17, 18, 19, 20] (by decide +kernel) (by decide +kernel)
set_option maxRecDepth 20000 in
theorem gX6_setTaste_X6_no : GoodIn wsX6_setTaste (wsV RX6 49 RX6 yX6_no wsX6_no) := goodIn_app (goodIn_of _ (by decide +kernel)) ggX6_setTaste_X6_no
theorem dX6_setTaste_0 : decode cX6_setTaste 0 = .ok (.aload_n 0, 1) := by decide +kernel
theorem dX6_setTaste_1 : decode cX6_setTaste 1 = .ok (.iconst 0, 1) := by decide +kernel
theorem dX6_setTaste_2 : decode cX6_setTaste 2 = .ok (.putfield 28, 3) := by decide +kernel
theorem dX6_setTaste_5 : decode cX6_setTaste 5 = .ok (.aload_n 0, 1) := by decide +kernel
theorem dX6_setTaste_6 : decode cX6_setTaste 6 = .ok (.iload_n 1, 1) := by decide +kernel
theorem dX6_setTaste_7 : decode cX6_setTaste 7 = .ok (.invokevirtual 42, 3) := by decide +kernel
theorem dX6_setTaste_10 : decode cX6_setTaste 10 = .ok (.ifCond .eq 12, 3) := by decide +kernel
theorem dX6_setTaste_13 : decode cX6_setTaste 13 = .ok (.iload_n 2, 1) := by decide +kernel
theorem dX6_setTaste_14 : decode cX6_setTaste 14 = .ok (.iconst 0, 1) := by decide +kernel
theorem dX6_setTaste_15 : decode cX6_setTaste 15 = .ok (.iconst 5, 1) := by decide +kernel
theorem dX6_setTaste_16 : decode cX6_setTaste 16 = .ok (.invokestatic 35, 3) := by decide +kernel
theorem dX6_setTaste_19 : decode cX6_setTaste 19 = .ok (.ifCond .ne 9, 3) := by decide +kernel
theorem dX6_setTaste_22 : decode cX6_setTaste 22 = .ok (.aload_n 0, 1) := by decide +kernel
theorem dX6_setTaste_23 : decode cX6_setTaste 23 = .ok (.iconst 1, 1) := by decide +kernel
theorem dX6_setTaste_24 : decode cX6_setTaste 24 = .ok (.invokevirtual 49, 3) := by decide +kernel
theorem dX6_setTaste_27 : decode cX6_setTaste 27 = .ok (.ireturn, 1) := by decide +kernel
theorem dX6_setTaste_28 : decode cX6_setTaste 28 = .ok (.iload_n 3, 1) := by decide +kernel
theorem dX6_setTaste_29 : decode cX6_setTaste 29 = .ok (.iconst 0, 1) := by decide +kernel
theorem dX6_setTaste_30 : decode cX6_setTaste 30 = .ok (.bipush 9, 2) := by decide +kernel
theorem dX6_setTaste_32 : decode cX6_setTaste 32 = .ok (.invokestatic 35, 3) := by decide +kernel
theorem dX6_setTaste_35 : decode cX6_setTaste 35 = .ok (.ifCond .ne 9, 3) := by decide +kernel
theorem dX6_setTaste_38 : decode cX6_setTaste 38 = .ok (.aload_n 0, 1) := by decide +kernel
theorem dX6_setTaste_39 : decode cX6_setTaste 39 = .ok (.iconst 2, 1) := by decide +kernel
theorem dX6_setTaste_40 : decode cX6_setTaste 40 = .ok (.invokevirtual 49, 3) := by decide +kernel
theorem dX6_setTaste_43 : decode cX6_setTaste 43 = .ok (.ireturn, 1) := by decide +kernel
theorem dX6_setTaste_44 : decode cX6_setTaste 44 = .ok (.aload_n 0, 1) := by decide +kernel
theorem dX6_setTaste_45 : decode cX6_setTaste 45 = .ok (.getfield 21, 3) := by decide +kernel
theorem dX6_setTaste_48 : decode cX6_setTaste 48 = .ok (.getfield 53, 3) := by decide +kernel
theorem dX6_setTaste_51 : decode cX6_setTaste 51 = .ok (.bipush 6, 2) := by decide +kernel
theorem dX6_setTaste_53 : decode cX6_setTaste 53 = .ok (.iload_n 1, 1) := by decide +kernel
theorem dX6_setTaste_54 : decode cX6_setTaste 54 = .ok (.imul, 1) := by decide +kernel
theorem dX6_setTaste_55 : decode cX6_setTaste 55 = .ok (.iload_n 2, 1) := by decide +kernel
theorem dX6_setTaste_56 : decode cX6_setTaste 56 = .ok (.iadd, 1) := by decide +kernel
theorem dX6_setTaste_57 : decode cX6_setTaste 57 = .ok (.iaload, 1) := by decide +kernel
theorem dX6_setTaste_58 : decode cX6_setTaste 58 = .ok (.istore 4, 2) := by decide +kernel
theorem dX6_setTaste_60 : decode cX6_setTaste 60 = .ok (.aload_n 0, 1) := by decide +kernel
theorem dX6_setTaste_61 : decode cX6_setTaste 61 = .ok (.getfield 21, 3) := by decide +kernel
theorem dX6_setTaste_64 : decode cX6_setTaste 64 = .ok (.getfield 53, 3) := by decide +kernel
theorem dX6_setTaste_67 : decode cX6_setTaste 67 = .ok (.bipush 6, 2) := by decide +kernel
theorem dX6_setTaste_69 : decode cX6_setTaste 69 = .ok (.iload_n 1, 1) := by decide +kernel
theorem dX6_setTaste_70 : decode cX6_setTaste 70 = .ok (.imul, 1) := by decide +kernel
theorem dX6_setTaste_71 : decode cX6_setTaste 71 = .ok (.iload_n 2, 1) := by decide +kernel
theorem dX6_setTaste_72 : decode cX6_setTaste 72 = .ok (.iadd, 1) := by decide +kernel
theorem dX6_setTaste_73 : decode cX6_setTaste 73 = .ok (.iload_n 3, 1) := by decide +kernel
theorem dX6_setTaste_74 : decode cX6_setTaste 74 = .ok (.iastore, 1) := by decide +kernel
theorem dX6_setTaste_75 : decode cX6_setTaste 75 = .ok (.iload 4, 2) := by decide +kernel
theorem dX6_setTaste_77 : decode cX6_setTaste 77 = .ok (.ireturn, 1) := by decide +kernel
set_option maxRecDepth 20000 in
theorem ggX6_streetTold_X5_standing : GoodIn wsX6_streetTold wsX5_standing := goodIn_r _ [7, 8, 9, 10, 48, 49, 50, 51, 52, 53, 54, 55, 56, 57, 58, 59, 60, 61, 62, 63, 64, 65, 66, 67, 68] (by decide +kernel) (by decide +kernel)
set_option maxRecDepth 20000 in
theorem gX6_streetTold_X5_standing : GoodIn wsX6_streetTold (wsV RX6 59 RX5 yX5_standing wsX5_standing) := goodIn_app (goodIn_of _ (by decide +kernel)) ggX6_streetTold_X5_standing
set_option maxRecDepth 20000 in
theorem ggX6_streetTold_X5_complaintsOf : GoodIn wsX6_streetTold wsX5_complaintsOf := goodIn_r _ [14, 8, 15, 48, 49, 50, 51, 52, 53, 54, 55, 56, 57, 58, 59, 60, 61, 62, 63, 64, 65, 66, 67, 68] (by decide +kernel) (by decide +kernel)
set_option maxRecDepth 20000 in
theorem gX6_streetTold_X5_complaintsOf : GoodIn wsX6_streetTold (wsV RX6 62 RX5 yX5_complaintsOf wsX5_complaintsOf) := goodIn_app (goodIn_of _ (by decide +kernel)) ggX6_streetTold_X5_complaintsOf
set_option maxRecDepth 20000 in
theorem ggX6_streetTold_X5_pitchesWith : GoodIn wsX6_streetTold wsX5_pitchesWith := goodIn_r _ [19, 20, 21, 22, 23, 6, 24, 8, 25, 26, 27, 28, 29, 30, 31, 32, 33, 34, 35, 36, 9, 10, 37, 38, 39, 40, 41, 48, 49, 50, 51, 52, 53, 54, 55, 56, 57, 58, 59, 60, 61, 62, 63, 64, 65, 66, 67, 68] (by decide +kernel) (by decide +kernel)
set_option maxRecDepth 20000 in
theorem gX6_streetTold_X5_pitchesWith : GoodIn wsX6_streetTold (wsV RX6 72 RX5 yX5_pitchesWith wsX5_pitchesWith) := goodIn_app (goodIn_of _ (by decide +kernel)) ggX6_streetTold_X5_pitchesWith
theorem dX6_streetTold_0 : decode cX6_streetTold 0 = .ok (.iload_n 2, 1) := by decide +kernel
theorem dX6_streetTold_1 : decode cX6_streetTold 1 = .ok (.tableswitch 109 0 5 #[39, 49, 70, 79, 89, 99], 39) := by decide +kernel
theorem dX6_streetTold_40 : decode cX6_streetTold 40 = .ok (.aload_n 0, 1) := by decide +kernel
theorem dX6_streetTold_41 : decode cX6_streetTold 41 = .ok (.getfield 21, 3) := by decide +kernel
theorem dX6_streetTold_44 : decode cX6_streetTold 44 = .ok (.getfield 46, 3) := by decide +kernel
theorem dX6_streetTold_47 : decode cX6_streetTold 47 = .ok (.iload_n 1, 1) := by decide +kernel
theorem dX6_streetTold_48 : decode cX6_streetTold 48 = .ok (.iaload, 1) := by decide +kernel
theorem dX6_streetTold_49 : decode cX6_streetTold 49 = .ok (.ireturn, 1) := by decide +kernel
theorem dX6_streetTold_50 : decode cX6_streetTold 50 = .ok (.aload_n 0, 1) := by decide +kernel
theorem dX6_streetTold_51 : decode cX6_streetTold 51 = .ok (.getfield 9, 3) := by decide +kernel
theorem dX6_streetTold_54 : decode cX6_streetTold 54 = .ok (.bipush 24, 2) := by decide +kernel
theorem dX6_streetTold_56 : decode cX6_streetTold 56 = .ok (.iload_n 1, 1) := by decide +kernel
theorem dX6_streetTold_57 : decode cX6_streetTold 57 = .ok (.imul, 1) := by decide +kernel
theorem dX6_streetTold_58 : decode cX6_streetTold 58 = .ok (.aload_n 0, 1) := by decide +kernel
theorem dX6_streetTold_59 : decode cX6_streetTold 59 = .ok (.getfield 21, 3) := by decide +kernel
theorem dX6_streetTold_62 : decode cX6_streetTold 62 = .ok (.getfield 56, 3) := by decide +kernel
theorem dX6_streetTold_65 : decode cX6_streetTold 65 = .ok (.bipush 24, 2) := by decide +kernel
theorem dX6_streetTold_67 : decode cX6_streetTold 67 = .ok (.irem, 1) := by decide +kernel
theorem dX6_streetTold_68 : decode cX6_streetTold 68 = .ok (.iadd, 1) := by decide +kernel
theorem dX6_streetTold_69 : decode cX6_streetTold 69 = .ok (.iaload, 1) := by decide +kernel
theorem dX6_streetTold_70 : decode cX6_streetTold 70 = .ok (.ireturn, 1) := by decide +kernel
theorem dX6_streetTold_71 : decode cX6_streetTold 71 = .ok (.aload_n 0, 1) := by decide +kernel
theorem dX6_streetTold_72 : decode cX6_streetTold 72 = .ok (.getfield 21, 3) := by decide +kernel
theorem dX6_streetTold_75 : decode cX6_streetTold 75 = .ok (.iload_n 1, 1) := by decide +kernel
theorem dX6_streetTold_76 : decode cX6_streetTold 76 = .ok (.invokevirtual 59, 3) := by decide +kernel
theorem dX6_streetTold_79 : decode cX6_streetTold 79 = .ok (.ireturn, 1) := by decide +kernel
theorem dX6_streetTold_80 : decode cX6_streetTold 80 = .ok (.aload_n 0, 1) := by decide +kernel
theorem dX6_streetTold_81 : decode cX6_streetTold 81 = .ok (.getfield 21, 3) := by decide +kernel
theorem dX6_streetTold_84 : decode cX6_streetTold 84 = .ok (.iload_n 1, 1) := by decide +kernel
theorem dX6_streetTold_85 : decode cX6_streetTold 85 = .ok (.iconst (-1), 1) := by decide +kernel
theorem dX6_streetTold_86 : decode cX6_streetTold 86 = .ok (.invokevirtual 62, 3) := by decide +kernel
theorem dX6_streetTold_89 : decode cX6_streetTold 89 = .ok (.ireturn, 1) := by decide +kernel
theorem dX6_streetTold_90 : decode cX6_streetTold 90 = .ok (.aload_n 0, 1) := by decide +kernel
theorem dX6_streetTold_91 : decode cX6_streetTold 91 = .ok (.getfield 21, 3) := by decide +kernel
theorem dX6_streetTold_94 : decode cX6_streetTold 94 = .ok (.getfield 66, 3) := by decide +kernel
theorem dX6_streetTold_97 : decode cX6_streetTold 97 = .ok (.iload_n 1, 1) := by decide +kernel
theorem dX6_streetTold_98 : decode cX6_streetTold 98 = .ok (.iaload, 1) := by decide +kernel
theorem dX6_streetTold_99 : decode cX6_streetTold 99 = .ok (.ireturn, 1) := by decide +kernel
theorem dX6_streetTold_100 : decode cX6_streetTold 100 = .ok (.aload_n 0, 1) := by decide +kernel
theorem dX6_streetTold_101 : decode cX6_streetTold 101 = .ok (.getfield 21, 3) := by decide +kernel
theorem dX6_streetTold_104 : decode cX6_streetTold 104 = .ok (.getfield 69, 3) := by decide +kernel
theorem dX6_streetTold_107 : decode cX6_streetTold 107 = .ok (.iload_n 1, 1) := by decide +kernel
theorem dX6_streetTold_108 : decode cX6_streetTold 108 = .ok (.iaload, 1) := by decide +kernel
theorem dX6_streetTold_109 : decode cX6_streetTold 109 = .ok (.ireturn, 1) := by decide +kernel
theorem dX6_streetTold_110 : decode cX6_streetTold 110 = .ok (.aload_n 0, 1) := by decide +kernel
theorem dX6_streetTold_111 : decode cX6_streetTold 111 = .ok (.getfield 21, 3) := by decide +kernel
theorem dX6_streetTold_114 : decode cX6_streetTold 114 = .ok (.iload_n 1, 1) := by decide +kernel
theorem dX6_streetTold_115 : decode cX6_streetTold 115 = .ok (.iload_n 2, 1) := by decide +kernel
theorem dX6_streetTold_116 : decode cX6_streetTold 116 = .ok (.bipush 6, 2) := by decide +kernel
theorem dX6_streetTold_118 : decode cX6_streetTold 118 = .ok (.if_icmp .ne 7, 3) := by decide +kernel
theorem dX6_streetTold_121 : decode cX6_streetTold 121 = .ok (.iconst 1, 1) := by decide +kernel
theorem dX6_streetTold_122 : decode cX6_streetTold 122 = .ok (.goto 4, 3) := by decide +kernel
theorem dX6_streetTold_125 : decode cX6_streetTold 125 = .ok (.iconst 0, 1) := by decide +kernel
theorem dX6_streetTold_126 : decode cX6_streetTold 126 = .ok (.invokevirtual 72, 3) := by decide +kernel
theorem dX6_streetTold_129 : decode cX6_streetTold 129 = .ok (.ireturn, 1) := by decide +kernel
set_option maxRecDepth 20000 in
theorem ggX6_street_X6_isStreet : GoodIn wsX6_street wsX6_isStreet := goodIn_r _ [6, 7, 8, 9, 5, 10, 59, 60, 61, 62, 63, 64, 65, 66, 67, 68, 69, 70, 71, 72, 73, 74, 75, 76, 77, 78, 79, 80, 81, 82, 83, 84, 85] (by decide +kernel) (by decide +kernel)
set_option maxRecDepth 20000 in
theorem gX6_street_X6_isStreet : GoodIn wsX6_street (wsV RX6 42 RX6 yX6_isStreet wsX6_isStreet) := goodIn_app (goodIn_of _ (by decide +kernel)) ggX6_street_X6_isStreet
set_option maxRecDepth 20000 in
theorem ggX6_street_X6_isIn : GoodIn wsX6_street wsX6_isIn := goodIn_r _ [10] (by decide +kernel) (by decide +kernel)
set_option maxRecDepth 20000 in
theorem gX6_street_X6_isIn : GoodIn wsX6_street (va_wsS RX6 35 yX6_isIn wsX6_isIn) := goodIn_app (goodIn_of _ (by decide +kernel)) ggX6_street_X6_isIn
set_option maxRecDepth 20000 in
theorem ggX6_street_X6_streetTold : GoodIn wsX6_street wsX6_streetTold := goodIn_r _ [14, 7, 15, 16, 17, 18, 19, 20, 21, 22, 23, 24, 25, 26, 27, 28, 29, 30, 31, 32, 33, 34, 35, 36, 37, 38, 39, 40, 41, 42, 43, 44, 45, 46, 47, 48, 49, 50, 51, 52, 53, 54, 59, 60, 61, 62, 63, 64, 65, 66, 67, 68, 69, 70, 71, 72, 73, 74, 75, 76, 77, 78, 79, 80, 81, 82, 83, 84, 85] (by decide +kernel) (by decide +kernel)
set_option maxRecDepth 20000 in
theorem gX6_street_X6_streetTold : GoodIn wsX6_street (wsV RX6 76 RX6 yX6_streetTold wsX6_streetTold) := goodIn_app (goodIn_of _ (by decide +kernel)) ggX6_street_X6_streetTold
set_option maxRecDepth 20000 in
theorem ggX6_street_X6_no : GoodIn wsX6_street wsX6_no := goodIn_r _ [58, 1, 59, 60, 61, 62, 63, 64] (by decide +kernel) (by decide +kernel)
set_option maxRecDepth 20000 in
theorem gX6_street_X6_no : GoodIn wsX6_street (wsV RX6 49 RX6 yX6_no wsX6_no) := goodIn_app (goodIn_of _ (by decide +kernel)) ggX6_street_X6_no
theorem dX6_street_0 : decode cX6_street 0 = .ok (.aload_n 0, 1) := by decide +kernel
theorem dX6_street_1 : decode cX6_street 1 = .ok (.iconst 0, 1) := by decide +kernel
theorem dX6_street_2 : decode cX6_street 2 = .ok (.putfield 28, 3) := by decide +kernel
theorem dX6_street_5 : decode cX6_street 5 = .ok (.aload_n 0, 1) := by decide +kernel
theorem dX6_street_6 : decode cX6_street 6 = .ok (.iload_n 1, 1) := by decide +kernel
theorem dX6_street_7 : decode cX6_street 7 = .ok (.invokevirtual 42, 3) := by decide +kernel
theorem dX6_street_10 : decode cX6_street 10 = .ok (.ifCond .eq 22, 3) := by decide +kernel
theorem dX6_street_13 : decode cX6_street 13 = .ok (.iload_n 2, 1) := by decide +kernel
theorem dX6_street_14 : decode cX6_street 14 = .ok (.iconst 0, 1) := by decide +kernel
theorem dX6_street_15 : decode cX6_street 15 = .ok (.bipush 7, 2) := by decide +kernel
theorem dX6_street_17 : decode cX6_street 17 = .ok (.invokestatic 35, 3) := by decide +kernel
theorem dX6_street_20 : decode cX6_street 20 = .ok (.ifCond .eq 12, 3) := by decide +kernel
theorem dX6_street_23 : decode cX6_street 23 = .ok (.aload_n 0, 1) := by decide +kernel
theorem dX6_street_24 : decode cX6_street 24 = .ok (.iload_n 1, 1) := by decide +kernel
theorem dX6_street_25 : decode cX6_street 25 = .ok (.iload_n 2, 1) := by decide +kernel
theorem dX6_street_26 : decode cX6_street 26 = .ok (.invokevirtual 76, 3) := by decide +kernel
theorem dX6_street_29 : decode cX6_street 29 = .ok (.goto 8, 3) := by decide +kernel
theorem dX6_street_32 : decode cX6_street 32 = .ok (.aload_n 0, 1) := by decide +kernel
theorem dX6_street_33 : decode cX6_street 33 = .ok (.iconst 1, 1) := by decide +kernel
theorem dX6_street_34 : decode cX6_street 34 = .ok (.invokevirtual 49, 3) := by decide +kernel
theorem dX6_street_37 : decode cX6_street 37 = .ok (.ireturn, 1) := by decide +kernel
set_option maxRecDepth 20000 in
theorem ggX6_ear_X6_isStreet : GoodIn wsX6_ear wsX6_isStreet := goodIn_r _ [7, 2, 8, 9, 6, 10, 15, 16, 17, 18, 19, 20, 21, 22, 23, 24, 25, 26, 27, 28, 29, 30, 31, 32, 33, 34, 35, 36, 37, 38, 39, 40, 41] (by decide +kernel) (by decide +kernel)
set_option maxRecDepth 20000 in
theorem gX6_ear_X6_isStreet : GoodIn wsX6_ear (wsV RX6 42 RX6 yX6_isStreet wsX6_isStreet) := goodIn_app (goodIn_of _ (by decide +kernel)) ggX6_ear_X6_isStreet
set_option maxRecDepth 20000 in
theorem ggX6_ear_X6_isIn : GoodIn wsX6_ear wsX6_isIn := goodIn_r _ [10] (by decide +kernel) (by decide +kernel)
set_option maxRecDepth 20000 in
theorem gX6_ear_X6_isIn : GoodIn wsX6_ear (va_wsS RX6 35 yX6_isIn wsX6_isIn) := goodIn_app (goodIn_of _ (by decide +kernel)) ggX6_ear_X6_isIn
set_option maxRecDepth 20000 in
theorem ggX6_ear_X6_no : GoodIn wsX6_ear wsX6_no := goodIn_r _ [14, 1, 15, 16, 17, 18, 19, 20] (by decide +kernel) (by decide +kernel)
set_option maxRecDepth 20000 in
theorem gX6_ear_X6_no : GoodIn wsX6_ear (wsV RX6 49 RX6 yX6_no wsX6_no) := goodIn_app (goodIn_of _ (by decide +kernel)) ggX6_ear_X6_no
theorem dX6_ear_0 : decode cX6_ear 0 = .ok (.aload_n 0, 1) := by decide +kernel
theorem dX6_ear_1 : decode cX6_ear 1 = .ok (.iconst 0, 1) := by decide +kernel
theorem dX6_ear_2 : decode cX6_ear 2 = .ok (.putfield 28, 3) := by decide +kernel
theorem dX6_ear_5 : decode cX6_ear 5 = .ok (.aload_n 0, 1) := by decide +kernel
theorem dX6_ear_6 : decode cX6_ear 6 = .ok (.iload_n 1, 1) := by decide +kernel
theorem dX6_ear_7 : decode cX6_ear 7 = .ok (.invokevirtual 42, 3) := by decide +kernel
theorem dX6_ear_10 : decode cX6_ear 10 = .ok (.ifCond .eq 12, 3) := by decide +kernel
theorem dX6_ear_13 : decode cX6_ear 13 = .ok (.iload_n 2, 1) := by decide +kernel
theorem dX6_ear_14 : decode cX6_ear 14 = .ok (.iconst 0, 1) := by decide +kernel
theorem dX6_ear_15 : decode cX6_ear 15 = .ok (.iconst 5, 1) := by decide +kernel
theorem dX6_ear_16 : decode cX6_ear 16 = .ok (.invokestatic 35, 3) := by decide +kernel
theorem dX6_ear_19 : decode cX6_ear 19 = .ok (.ifCond .ne 9, 3) := by decide +kernel
theorem dX6_ear_22 : decode cX6_ear 22 = .ok (.aload_n 0, 1) := by decide +kernel
theorem dX6_ear_23 : decode cX6_ear 23 = .ok (.iconst 1, 1) := by decide +kernel
theorem dX6_ear_24 : decode cX6_ear 24 = .ok (.invokevirtual 49, 3) := by decide +kernel
theorem dX6_ear_27 : decode cX6_ear 27 = .ok (.ireturn, 1) := by decide +kernel
theorem dX6_ear_28 : decode cX6_ear 28 = .ok (.iload_n 3, 1) := by decide +kernel
theorem dX6_ear_29 : decode cX6_ear 29 = .ok (.ifCond .eq 20, 3) := by decide +kernel
theorem dX6_ear_32 : decode cX6_ear 32 = .ok (.aload_n 0, 1) := by decide +kernel
theorem dX6_ear_33 : decode cX6_ear 33 = .ok (.getfield 21, 3) := by decide +kernel
theorem dX6_ear_36 : decode cX6_ear 36 = .ok (.getfield 53, 3) := by decide +kernel
theorem dX6_ear_39 : decode cX6_ear 39 = .ok (.bipush 6, 2) := by decide +kernel
theorem dX6_ear_41 : decode cX6_ear 41 = .ok (.iload_n 1, 1) := by decide +kernel
theorem dX6_ear_42 : decode cX6_ear 42 = .ok (.imul, 1) := by decide +kernel
theorem dX6_ear_43 : decode cX6_ear 43 = .ok (.iload_n 2, 1) := by decide +kernel
theorem dX6_ear_44 : decode cX6_ear 44 = .ok (.iadd, 1) := by decide +kernel
theorem dX6_ear_45 : decode cX6_ear 45 = .ok (.iaload, 1) := by decide +kernel
theorem dX6_ear_46 : decode cX6_ear 46 = .ok (.goto 17, 3) := by decide +kernel
theorem dX6_ear_49 : decode cX6_ear 49 = .ok (.aload_n 0, 1) := by decide +kernel
theorem dX6_ear_50 : decode cX6_ear 50 = .ok (.getfield 21, 3) := by decide +kernel
theorem dX6_ear_53 : decode cX6_ear 53 = .ok (.getfield 79, 3) := by decide +kernel
theorem dX6_ear_56 : decode cX6_ear 56 = .ok (.bipush 6, 2) := by decide +kernel
theorem dX6_ear_58 : decode cX6_ear 58 = .ok (.iload_n 1, 1) := by decide +kernel
theorem dX6_ear_59 : decode cX6_ear 59 = .ok (.imul, 1) := by decide +kernel
theorem dX6_ear_60 : decode cX6_ear 60 = .ok (.iload_n 2, 1) := by decide +kernel
theorem dX6_ear_61 : decode cX6_ear 61 = .ok (.iadd, 1) := by decide +kernel
theorem dX6_ear_62 : decode cX6_ear 62 = .ok (.iaload, 1) := by decide +kernel
theorem dX6_ear_63 : decode cX6_ear 63 = .ok (.ireturn, 1) := by decide +kernel
set_option maxRecDepth 20000 in
theorem ggX6_addOrgan_X6_isPitch : GoodIn wsX6_addOrgan wsX6_isPitch := goodIn_r _ [7, 2, 8, 9, 10, 6, 11, 12, 13, 14, 19, 20, 21, 22, 23, 24, 25, 26, 27, 28, 29, 30, 31, 32, 33, 34, 35, 36, 37, 38, 39, 40, 41, 42, 43, 44, 45] (by decide +kernel) (by decide +kernel)
set_option maxRecDepth 20000 in
theorem gX6_addOrgan_X6_isPitch : GoodIn wsX6_addOrgan (wsV RX6 82 RX6 yX6_isPitch wsX6_isPitch) := goodIn_app (goodIn_of _ (by decide +kernel)) ggX6_addOrgan_X6_isPitch
set_option maxRecDepth 20000 in
theorem ggX6_addOrgan_X6_no : GoodIn wsX6_addOrgan wsX6_no := goodIn_r _ [18, 1, 19, 20, 21, 22, 23, 24] (by decide +kernel) (by decide +kernel)
set_option maxRecDepth 20000 in
theorem gX6_addOrgan_X6_no : GoodIn wsX6_addOrgan (wsV RX6 49 RX6 yX6_no wsX6_no) := goodIn_app (goodIn_of _ (by decide +kernel)) ggX6_addOrgan_X6_no
set_option maxRecDepth 20000 in
theorem ggX6_addOrgan_X6_isIn : GoodIn wsX6_addOrgan wsX6_isIn := goodIn_r _ [14] (by decide +kernel) (by decide +kernel)
set_option maxRecDepth 20000 in
theorem gX6_addOrgan_X6_isIn : GoodIn wsX6_addOrgan (va_wsS RX6 35 yX6_isIn wsX6_isIn) := goodIn_app (goodIn_of _ (by decide +kernel)) ggX6_addOrgan_X6_isIn
theorem dX6_addOrgan_0 : decode cX6_addOrgan 0 = .ok (.aload_n 0, 1) := by decide +kernel
theorem dX6_addOrgan_1 : decode cX6_addOrgan 1 = .ok (.iconst 0, 1) := by decide +kernel
theorem dX6_addOrgan_2 : decode cX6_addOrgan 2 = .ok (.putfield 28, 3) := by decide +kernel
theorem dX6_addOrgan_5 : decode cX6_addOrgan 5 = .ok (.aload_n 0, 1) := by decide +kernel
theorem dX6_addOrgan_6 : decode cX6_addOrgan 6 = .ok (.iload_n 1, 1) := by decide +kernel
theorem dX6_addOrgan_7 : decode cX6_addOrgan 7 = .ok (.iload_n 2, 1) := by decide +kernel
theorem dX6_addOrgan_8 : decode cX6_addOrgan 8 = .ok (.invokevirtual 82, 3) := by decide +kernel
theorem dX6_addOrgan_11 : decode cX6_addOrgan 11 = .ok (.ifCond .ne 9, 3) := by decide +kernel
theorem dX6_addOrgan_14 : decode cX6_addOrgan 14 = .ok (.aload_n 0, 1) := by decide +kernel
theorem dX6_addOrgan_15 : decode cX6_addOrgan 15 = .ok (.iconst 1, 1) := by decide +kernel
theorem dX6_addOrgan_16 : decode cX6_addOrgan 16 = .ok (.invokevirtual 49, 3) := by decide +kernel
theorem dX6_addOrgan_19 : decode cX6_addOrgan 19 = .ok (.ireturn, 1) := by decide +kernel
theorem dX6_addOrgan_20 : decode cX6_addOrgan 20 = .ok (.iload_n 3, 1) := by decide +kernel
theorem dX6_addOrgan_21 : decode cX6_addOrgan 21 = .ok (.iconst 1, 1) := by decide +kernel
theorem dX6_addOrgan_22 : decode cX6_addOrgan 22 = .ok (.bipush 9, 2) := by decide +kernel
theorem dX6_addOrgan_24 : decode cX6_addOrgan 24 = .ok (.invokestatic 35, 3) := by decide +kernel
theorem dX6_addOrgan_27 : decode cX6_addOrgan 27 = .ok (.ifCond .ne 9, 3) := by decide +kernel
theorem dX6_addOrgan_30 : decode cX6_addOrgan 30 = .ok (.aload_n 0, 1) := by decide +kernel
theorem dX6_addOrgan_31 : decode cX6_addOrgan 31 = .ok (.iconst 2, 1) := by decide +kernel
theorem dX6_addOrgan_32 : decode cX6_addOrgan 32 = .ok (.invokevirtual 49, 3) := by decide +kernel
theorem dX6_addOrgan_35 : decode cX6_addOrgan 35 = .ok (.ireturn, 1) := by decide +kernel
theorem dX6_addOrgan_36 : decode cX6_addOrgan 36 = .ok (.aload_n 0, 1) := by decide +kernel
theorem dX6_addOrgan_37 : decode cX6_addOrgan 37 = .ok (.getfield 21, 3) := by decide +kernel
theorem dX6_addOrgan_40 : decode cX6_addOrgan 40 = .ok (.getfield 39, 3) := by decide +kernel
theorem dX6_addOrgan_43 : decode cX6_addOrgan 43 = .ok (.bipush 8, 2) := by decide +kernel
theorem dX6_addOrgan_45 : decode cX6_addOrgan 45 = .ok (.if_icmp .ne 9, 3) := by decide +kernel
theorem dX6_addOrgan_48 : decode cX6_addOrgan 48 = .ok (.aload_n 0, 1) := by decide +kernel
theorem dX6_addOrgan_49 : decode cX6_addOrgan 49 = .ok (.iconst 3, 1) := by decide +kernel
theorem dX6_addOrgan_50 : decode cX6_addOrgan 50 = .ok (.invokevirtual 49, 3) := by decide +kernel
theorem dX6_addOrgan_53 : decode cX6_addOrgan 53 = .ok (.ireturn, 1) := by decide +kernel
theorem dX6_addOrgan_54 : decode cX6_addOrgan 54 = .ok (.aload_n 0, 1) := by decide +kernel
theorem dX6_addOrgan_55 : decode cX6_addOrgan 55 = .ok (.getfield 21, 3) := by decide +kernel
theorem dX6_addOrgan_58 : decode cX6_addOrgan 58 = .ok (.getfield 86, 3) := by decide +kernel
theorem dX6_addOrgan_61 : decode cX6_addOrgan 61 = .ok (.aload_n 0, 1) := by decide +kernel
theorem dX6_addOrgan_62 : decode cX6_addOrgan 62 = .ok (.getfield 21, 3) := by decide +kernel
theorem dX6_addOrgan_65 : decode cX6_addOrgan 65 = .ok (.getfield 39, 3) := by decide +kernel
theorem dX6_addOrgan_68 : decode cX6_addOrgan 68 = .ok (.iload_n 1, 1) := by decide +kernel
theorem dX6_addOrgan_69 : decode cX6_addOrgan 69 = .ok (.iastore, 1) := by decide +kernel
theorem dX6_addOrgan_70 : decode cX6_addOrgan 70 = .ok (.aload_n 0, 1) := by decide +kernel
theorem dX6_addOrgan_71 : decode cX6_addOrgan 71 = .ok (.getfield 21, 3) := by decide +kernel
theorem dX6_addOrgan_74 : decode cX6_addOrgan 74 = .ok (.getfield 89, 3) := by decide +kernel
theorem dX6_addOrgan_77 : decode cX6_addOrgan 77 = .ok (.aload_n 0, 1) := by decide +kernel
theorem dX6_addOrgan_78 : decode cX6_addOrgan 78 = .ok (.getfield 21, 3) := by decide +kernel
theorem dX6_addOrgan_81 : decode cX6_addOrgan 81 = .ok (.getfield 39, 3) := by decide +kernel
theorem dX6_addOrgan_84 : decode cX6_addOrgan 84 = .ok (.iload_n 2, 1) := by decide +kernel
theorem dX6_addOrgan_85 : decode cX6_addOrgan 85 = .ok (.iastore, 1) := by decide +kernel
theorem dX6_addOrgan_86 : decode cX6_addOrgan 86 = .ok (.aload_n 0, 1) := by decide +kernel
theorem dX6_addOrgan_87 : decode cX6_addOrgan 87 = .ok (.getfield 21, 3) := by decide +kernel
theorem dX6_addOrgan_90 : decode cX6_addOrgan 90 = .ok (.getfield 92, 3) := by decide +kernel
theorem dX6_addOrgan_93 : decode cX6_addOrgan 93 = .ok (.aload_n 0, 1) := by decide +kernel
theorem dX6_addOrgan_94 : decode cX6_addOrgan 94 = .ok (.getfield 21, 3) := by decide +kernel
theorem dX6_addOrgan_97 : decode cX6_addOrgan 97 = .ok (.getfield 39, 3) := by decide +kernel
theorem dX6_addOrgan_100 : decode cX6_addOrgan 100 = .ok (.iload_n 3, 1) := by decide +kernel
theorem dX6_addOrgan_101 : decode cX6_addOrgan 101 = .ok (.iastore, 1) := by decide +kernel
theorem dX6_addOrgan_102 : decode cX6_addOrgan 102 = .ok (.aload_n 0, 1) := by decide +kernel
theorem dX6_addOrgan_103 : decode cX6_addOrgan 103 = .ok (.getfield 21, 3) := by decide +kernel
theorem dX6_addOrgan_106 : decode cX6_addOrgan 106 = .ok (.getfield 95, 3) := by decide +kernel
theorem dX6_addOrgan_109 : decode cX6_addOrgan 109 = .ok (.aload_n 0, 1) := by decide +kernel
theorem dX6_addOrgan_110 : decode cX6_addOrgan 110 = .ok (.getfield 21, 3) := by decide +kernel
theorem dX6_addOrgan_113 : decode cX6_addOrgan 113 = .ok (.getfield 39, 3) := by decide +kernel
theorem dX6_addOrgan_116 : decode cX6_addOrgan 116 = .ok (.iconst 1, 1) := by decide +kernel
theorem dX6_addOrgan_117 : decode cX6_addOrgan 117 = .ok (.iastore, 1) := by decide +kernel
theorem dX6_addOrgan_118 : decode cX6_addOrgan 118 = .ok (.aload_n 0, 1) := by decide +kernel
theorem dX6_addOrgan_119 : decode cX6_addOrgan 119 = .ok (.getfield 21, 3) := by decide +kernel
theorem dX6_addOrgan_122 : decode cX6_addOrgan 122 = .ok (.dup, 1) := by decide +kernel
theorem dX6_addOrgan_123 : decode cX6_addOrgan 123 = .ok (.getfield 39, 3) := by decide +kernel
theorem dX6_addOrgan_126 : decode cX6_addOrgan 126 = .ok (.iconst 1, 1) := by decide +kernel
theorem dX6_addOrgan_127 : decode cX6_addOrgan 127 = .ok (.iadd, 1) := by decide +kernel
theorem dX6_addOrgan_128 : decode cX6_addOrgan 128 = .ok (.putfield 39, 3) := by decide +kernel
theorem dX6_addOrgan_131 : decode cX6_addOrgan 131 = .ok (.aload_n 0, 1) := by decide +kernel
theorem dX6_addOrgan_132 : decode cX6_addOrgan 132 = .ok (.getfield 21, 3) := by decide +kernel
theorem dX6_addOrgan_135 : decode cX6_addOrgan 135 = .ok (.getfield 39, 3) := by decide +kernel
theorem dX6_addOrgan_138 : decode cX6_addOrgan 138 = .ok (.iconst 1, 1) := by decide +kernel
theorem dX6_addOrgan_139 : decode cX6_addOrgan 139 = .ok (.isub, 1) := by decide +kernel
theorem dX6_addOrgan_140 : decode cX6_addOrgan 140 = .ok (.ireturn, 1) := by decide +kernel
set_option maxRecDepth 20000 in
theorem ggX6_isBarrel_X6_isIn : GoodIn wsX6_isBarrel wsX6_isIn := goodIn_r _ [5] (by decide +kernel) (by decide +kernel)
set_option maxRecDepth 20000 in
theorem gX6_isBarrel_X6_isIn : GoodIn wsX6_isBarrel (va_wsS RX6 35 yX6_isIn wsX6_isIn) := goodIn_app (goodIn_of _ (by decide +kernel)) ggX6_isBarrel_X6_isIn
theorem dX6_isBarrel_0 : decode cX6_isBarrel 0 = .ok (.iload_n 0, 1) := by decide +kernel
theorem dX6_isBarrel_1 : decode cX6_isBarrel 1 = .ok (.ifCond .le 13, 3) := by decide +kernel
theorem dX6_isBarrel_4 : decode cX6_isBarrel 4 = .ok (.iload_n 0, 1) := by decide +kernel
theorem dX6_isBarrel_5 : decode cX6_isBarrel 5 = .ok (.ldc 98, 2) := by decide +kernel
theorem dX6_isBarrel_7 : decode cX6_isBarrel 7 = .ok (.if_icmp .ge 7, 3) := by decide +kernel
theorem dX6_isBarrel_10 : decode cX6_isBarrel 10 = .ok (.iconst 1, 1) := by decide +kernel
theorem dX6_isBarrel_11 : decode cX6_isBarrel 11 = .ok (.goto 4, 3) := by decide +kernel
theorem dX6_isBarrel_14 : decode cX6_isBarrel 14 = .ok (.iconst 0, 1) := by decide +kernel
theorem dX6_isBarrel_15 : decode cX6_isBarrel 15 = .ok (.istore_n 1, 1) := by decide +kernel
theorem dX6_isBarrel_16 : decode cX6_isBarrel 16 = .ok (.iload_n 0, 1) := by decide +kernel
theorem dX6_isBarrel_17 : decode cX6_isBarrel 17 = .ok (.istore_n 2, 1) := by decide +kernel
theorem dX6_isBarrel_18 : decode cX6_isBarrel 18 = .ok (.iload_n 2, 1) := by decide +kernel
theorem dX6_isBarrel_19 : decode cX6_isBarrel 19 = .ok (.ifCond .le 26, 3) := by decide +kernel
theorem dX6_isBarrel_22 : decode cX6_isBarrel 22 = .ok (.iload_n 1, 1) := by decide +kernel
theorem dX6_isBarrel_23 : decode cX6_isBarrel 23 = .ok (.ifCond .eq 22, 3) := by decide +kernel
theorem dX6_isBarrel_26 : decode cX6_isBarrel 26 = .ok (.iload_n 2, 1) := by decide +kernel
theorem dX6_isBarrel_27 : decode cX6_isBarrel 27 = .ok (.bipush 10, 2) := by decide +kernel
theorem dX6_isBarrel_29 : decode cX6_isBarrel 29 = .ok (.irem, 1) := by decide +kernel
theorem dX6_isBarrel_30 : decode cX6_isBarrel 30 = .ok (.iconst 1, 1) := by decide +kernel
theorem dX6_isBarrel_31 : decode cX6_isBarrel 31 = .ok (.bipush 6, 2) := by decide +kernel
theorem dX6_isBarrel_33 : decode cX6_isBarrel 33 = .ok (.invokestatic 35, 3) := by decide +kernel
theorem dX6_isBarrel_36 : decode cX6_isBarrel 36 = .ok (.istore_n 1, 1) := by decide +kernel
theorem dX6_isBarrel_37 : decode cX6_isBarrel 37 = .ok (.iload_n 2, 1) := by decide +kernel
theorem dX6_isBarrel_38 : decode cX6_isBarrel 38 = .ok (.bipush 10, 2) := by decide +kernel
theorem dX6_isBarrel_40 : decode cX6_isBarrel 40 = .ok (.idiv, 1) := by decide +kernel
theorem dX6_isBarrel_41 : decode cX6_isBarrel 41 = .ok (.istore_n 2, 1) := by decide +kernel
theorem dX6_isBarrel_42 : decode cX6_isBarrel 42 = .ok (.goto (-24), 3) := by decide +kernel
theorem dX6_isBarrel_45 : decode cX6_isBarrel 45 = .ok (.iload_n 1, 1) := by decide +kernel
theorem dX6_isBarrel_46 : decode cX6_isBarrel 46 = .ok (.ireturn, 1) := by decide +kernel
set_option maxRecDepth 20000 in
theorem ggX6_setBarrel_X6_isOrgan : GoodIn wsX6_setBarrel wsX6_isOrgan := goodIn_r _ [7, 2, 8, 9, 6, 10, 19, 20, 21, 22, 23, 24, 25, 26, 27, 28, 29, 30, 31, 32, 33, 34, 35, 36, 37, 38, 39, 40, 41, 42, 43, 44, 45] (by decide +kernel) (by decide +kernel)
set_option maxRecDepth 20000 in
theorem gX6_setBarrel_X6_isOrgan : GoodIn wsX6_setBarrel (wsV RX6 99 RX6 yX6_isOrgan wsX6_isOrgan) := goodIn_app (goodIn_of _ (by decide +kernel)) ggX6_setBarrel_X6_isOrgan
set_option maxRecDepth 20000 in
theorem ggX6_setBarrel_X6_no : GoodIn wsX6_setBarrel wsX6_no := goodIn_r _ [14, 1, 19, 20, 21, 22, 23, 24] (by decide +kernel) (by decide +kernel)
set_option maxRecDepth 20000 in
theorem gX6_setBarrel_X6_no : GoodIn wsX6_setBarrel (wsV RX6 49 RX6 yX6_no wsX6_no) := goodIn_app (goodIn_of _ (by decide +kernel)) ggX6_setBarrel_X6_no
set_option maxRecDepth 20000 in
theorem ggX6_setBarrel_X6_isBarrel : GoodIn wsX6_setBarrel wsX6_isBarrel := goodIn_r _ [17, 18, 8, 9, 6, 10] (by decide +kernel) (by decide +kernel)
set_option maxRecDepth 20000 in
theorem gX6_setBarrel_X6_isBarrel : GoodIn wsX6_setBarrel (va_wsS RX6 102 yX6_isBarrel wsX6_isBarrel) := goodIn_app (goodIn_of _ (by decide +kernel)) ggX6_setBarrel_X6_isBarrel
theorem dX6_setBarrel_0 : decode cX6_setBarrel 0 = .ok (.aload_n 0, 1) := by decide +kernel
theorem dX6_setBarrel_1 : decode cX6_setBarrel 1 = .ok (.iconst 0, 1) := by decide +kernel
theorem dX6_setBarrel_2 : decode cX6_setBarrel 2 = .ok (.putfield 28, 3) := by decide +kernel
theorem dX6_setBarrel_5 : decode cX6_setBarrel 5 = .ok (.aload_n 0, 1) := by decide +kernel
theorem dX6_setBarrel_6 : decode cX6_setBarrel 6 = .ok (.iload_n 1, 1) := by decide +kernel
theorem dX6_setBarrel_7 : decode cX6_setBarrel 7 = .ok (.invokevirtual 99, 3) := by decide +kernel
theorem dX6_setBarrel_10 : decode cX6_setBarrel 10 = .ok (.ifCond .ne 9, 3) := by decide +kernel
theorem dX6_setBarrel_13 : decode cX6_setBarrel 13 = .ok (.aload_n 0, 1) := by decide +kernel
theorem dX6_setBarrel_14 : decode cX6_setBarrel 14 = .ok (.iconst 1, 1) := by decide +kernel
theorem dX6_setBarrel_15 : decode cX6_setBarrel 15 = .ok (.invokevirtual 49, 3) := by decide +kernel
theorem dX6_setBarrel_18 : decode cX6_setBarrel 18 = .ok (.ireturn, 1) := by decide +kernel
theorem dX6_setBarrel_19 : decode cX6_setBarrel 19 = .ok (.iload_n 2, 1) := by decide +kernel
theorem dX6_setBarrel_20 : decode cX6_setBarrel 20 = .ok (.invokestatic 102, 3) := by decide +kernel
theorem dX6_setBarrel_23 : decode cX6_setBarrel 23 = .ok (.ifCond .ne 9, 3) := by decide +kernel
theorem dX6_setBarrel_26 : decode cX6_setBarrel 26 = .ok (.aload_n 0, 1) := by decide +kernel
theorem dX6_setBarrel_27 : decode cX6_setBarrel 27 = .ok (.iconst 2, 1) := by decide +kernel
theorem dX6_setBarrel_28 : decode cX6_setBarrel 28 = .ok (.invokevirtual 49, 3) := by decide +kernel
theorem dX6_setBarrel_31 : decode cX6_setBarrel 31 = .ok (.ireturn, 1) := by decide +kernel
theorem dX6_setBarrel_32 : decode cX6_setBarrel 32 = .ok (.aload_n 0, 1) := by decide +kernel
theorem dX6_setBarrel_33 : decode cX6_setBarrel 33 = .ok (.getfield 21, 3) := by decide +kernel
theorem dX6_setBarrel_36 : decode cX6_setBarrel 36 = .ok (.getfield 95, 3) := by decide +kernel
theorem dX6_setBarrel_39 : decode cX6_setBarrel 39 = .ok (.iload_n 1, 1) := by decide +kernel
theorem dX6_setBarrel_40 : decode cX6_setBarrel 40 = .ok (.iaload, 1) := by decide +kernel
theorem dX6_setBarrel_41 : decode cX6_setBarrel 41 = .ok (.istore_n 3, 1) := by decide +kernel
theorem dX6_setBarrel_42 : decode cX6_setBarrel 42 = .ok (.aload_n 0, 1) := by decide +kernel
theorem dX6_setBarrel_43 : decode cX6_setBarrel 43 = .ok (.getfield 21, 3) := by decide +kernel
theorem dX6_setBarrel_46 : decode cX6_setBarrel 46 = .ok (.getfield 95, 3) := by decide +kernel
theorem dX6_setBarrel_49 : decode cX6_setBarrel 49 = .ok (.iload_n 1, 1) := by decide +kernel
theorem dX6_setBarrel_50 : decode cX6_setBarrel 50 = .ok (.iload_n 2, 1) := by decide +kernel
theorem dX6_setBarrel_51 : decode cX6_setBarrel 51 = .ok (.iastore, 1) := by decide +kernel
theorem dX6_setBarrel_52 : decode cX6_setBarrel 52 = .ok (.aload_n 0, 1) := by decide +kernel
theorem dX6_setBarrel_53 : decode cX6_setBarrel 53 = .ok (.getfield 21, 3) := by decide +kernel
theorem dX6_setBarrel_56 : decode cX6_setBarrel 56 = .ok (.getfield 105, 3) := by decide +kernel
theorem dX6_setBarrel_59 : decode cX6_setBarrel 59 = .ok (.iload_n 1, 1) := by decide +kernel
theorem dX6_setBarrel_60 : decode cX6_setBarrel 60 = .ok (.iconst 0, 1) := by decide +kernel
theorem dX6_setBarrel_61 : decode cX6_setBarrel 61 = .ok (.iastore, 1) := by decide +kernel
theorem dX6_setBarrel_62 : decode cX6_setBarrel 62 = .ok (.iconst 0, 1) := by decide +kernel
theorem dX6_setBarrel_63 : decode cX6_setBarrel 63 = .ok (.istore 4, 2) := by decide +kernel
theorem dX6_setBarrel_65 : decode cX6_setBarrel 65 = .ok (.iload 4, 2) := by decide +kernel
theorem dX6_setBarrel_67 : decode cX6_setBarrel 67 = .ok (.bipush 6, 2) := by decide +kernel
theorem dX6_setBarrel_69 : decode cX6_setBarrel 69 = .ok (.if_icmp .ge 25, 3) := by decide +kernel
theorem dX6_setBarrel_72 : decode cX6_setBarrel 72 = .ok (.aload_n 0, 1) := by decide +kernel
theorem dX6_setBarrel_73 : decode cX6_setBarrel 73 = .ok (.getfield 21, 3) := by decide +kernel
theorem dX6_setBarrel_76 : decode cX6_setBarrel 76 = .ok (.getfield 108, 3) := by decide +kernel
theorem dX6_setBarrel_79 : decode cX6_setBarrel 79 = .ok (.bipush 6, 2) := by decide +kernel
theorem dX6_setBarrel_81 : decode cX6_setBarrel 81 = .ok (.iload_n 1, 1) := by decide +kernel
theorem dX6_setBarrel_82 : decode cX6_setBarrel 82 = .ok (.imul, 1) := by decide +kernel
theorem dX6_setBarrel_83 : decode cX6_setBarrel 83 = .ok (.iload 4, 2) := by decide +kernel
theorem dX6_setBarrel_85 : decode cX6_setBarrel 85 = .ok (.iadd, 1) := by decide +kernel
theorem dX6_setBarrel_86 : decode cX6_setBarrel 86 = .ok (.iconst 0, 1) := by decide +kernel
theorem dX6_setBarrel_87 : decode cX6_setBarrel 87 = .ok (.iastore, 1) := by decide +kernel
theorem dX6_setBarrel_88 : decode cX6_setBarrel 88 = .ok (.iinc 4 1, 3) := by decide +kernel
theorem dX6_setBarrel_91 : decode cX6_setBarrel 91 = .ok (.goto (-26), 3) := by decide +kernel
theorem dX6_setBarrel_94 : decode cX6_setBarrel 94 = .ok (.iload_n 3, 1) := by decide +kernel
theorem dX6_setBarrel_95 : decode cX6_setBarrel 95 = .ok (.ireturn, 1) := by decide +kernel
set_option maxRecDepth 20000 in
theorem ggX6_send_X6_isOrgan : GoodIn wsX6_send wsX6_isOrgan := goodIn_r _ [11, 2, 12, 13, 10, 14, 27, 28, 29, 30, 31, 32, 33, 34, 35, 36, 37, 38, 39, 40, 41, 42, 43, 44, 45, 46, 47, 48, 49, 50, 51, 52, 53] (by decide +kernel) (by decide +kernel)
set_option maxRecDepth 20000 in
theorem gX6_send_X6_isOrgan : GoodIn wsX6_send (wsV RX6 99 RX6 yX6_isOrgan wsX6_isOrgan) := goodIn_app (goodIn_of _ (by decide +kernel)) ggX6_send_X6_isOrgan
set_option maxRecDepth 20000 in
theorem ggX6_send_X6_isPitch : GoodIn wsX6_send wsX6_isPitch := goodIn_r _ [18, 2, 19, 20, 21, 10, 22, 12, 13, 14, 27, 28, 29, 30, 31, 32, 33, 34, 35, 36, 37, 38, 39, 40, 41, 42, 43, 44, 45, 46, 47, 48, 49, 50, 51, 52, 53] (by decide +kernel) (by decide +kernel)
set_option maxRecDepth 20000 in
theorem gX6_send_X6_isPitch : GoodIn wsX6_send (wsV RX6 82 RX6 yX6_isPitch wsX6_isPitch) := goodIn_app (goodIn_of _ (by decide +kernel)) ggX6_send_X6_isPitch
set_option maxRecDepth 20000 in
theorem ggX6_send_X6_no : GoodIn wsX6_send wsX6_no := goodIn_r _ [26, 1, 27, 28, 29, 30, 31, 32] (by decide +kernel) (by decide +kernel)
set_option maxRecDepth 20000 in
theorem gX6_send_X6_no : GoodIn wsX6_send (wsV RX6 49 RX6 yX6_no wsX6_no) := goodIn_app (goodIn_of _ (by decide +kernel)) ggX6_send_X6_no
theorem dX6_send_0 : decode cX6_send 0 = .ok (.aload_n 0, 1) := by decide +kernel
theorem dX6_send_1 : decode cX6_send 1 = .ok (.iconst 0, 1) := by decide +kernel
theorem dX6_send_2 : decode cX6_send 2 = .ok (.putfield 28, 3) := by decide +kernel
theorem dX6_send_5 : decode cX6_send 5 = .ok (.aload_n 0, 1) := by decide +kernel
theorem dX6_send_6 : decode cX6_send 6 = .ok (.iload_n 1, 1) := by decide +kernel
theorem dX6_send_7 : decode cX6_send 7 = .ok (.invokevirtual 99, 3) := by decide +kernel
theorem dX6_send_10 : decode cX6_send 10 = .ok (.ifCond .eq 12, 3) := by decide +kernel
theorem dX6_send_13 : decode cX6_send 13 = .ok (.aload_n 0, 1) := by decide +kernel
theorem dX6_send_14 : decode cX6_send 14 = .ok (.iload_n 2, 1) := by decide +kernel
theorem dX6_send_15 : decode cX6_send 15 = .ok (.iload_n 3, 1) := by decide +kernel
theorem dX6_send_16 : decode cX6_send 16 = .ok (.invokevirtual 82, 3) := by decide +kernel
theorem dX6_send_19 : decode cX6_send 19 = .ok (.ifCond .ne 9, 3) := by decide +kernel
theorem dX6_send_22 : decode cX6_send 22 = .ok (.aload_n 0, 1) := by decide +kernel
theorem dX6_send_23 : decode cX6_send 23 = .ok (.iconst 1, 1) := by decide +kernel
theorem dX6_send_24 : decode cX6_send 24 = .ok (.invokevirtual 49, 3) := by decide +kernel
theorem dX6_send_27 : decode cX6_send 27 = .ok (.ireturn, 1) := by decide +kernel
theorem dX6_send_28 : decode cX6_send 28 = .ok (.aload_n 0, 1) := by decide +kernel
theorem dX6_send_29 : decode cX6_send 29 = .ok (.getfield 21, 3) := by decide +kernel
theorem dX6_send_32 : decode cX6_send 32 = .ok (.getfield 111, 3) := by decide +kernel
theorem dX6_send_35 : decode cX6_send 35 = .ok (.bipush 6, 2) := by decide +kernel
theorem dX6_send_37 : decode cX6_send 37 = .ok (.iload_n 1, 1) := by decide +kernel
theorem dX6_send_38 : decode cX6_send 38 = .ok (.imul, 1) := by decide +kernel
theorem dX6_send_39 : decode cX6_send 39 = .ok (.iload_n 2, 1) := by decide +kernel
theorem dX6_send_40 : decode cX6_send 40 = .ok (.iadd, 1) := by decide +kernel
theorem dX6_send_41 : decode cX6_send 41 = .ok (.iaload, 1) := by decide +kernel
theorem dX6_send_42 : decode cX6_send 42 = .ok (.ifCond .le 9, 3) := by decide +kernel
theorem dX6_send_45 : decode cX6_send 45 = .ok (.aload_n 0, 1) := by decide +kernel
theorem dX6_send_46 : decode cX6_send 46 = .ok (.iconst 2, 1) := by decide +kernel
theorem dX6_send_47 : decode cX6_send 47 = .ok (.invokevirtual 49, 3) := by decide +kernel
theorem dX6_send_50 : decode cX6_send 50 = .ok (.ireturn, 1) := by decide +kernel
theorem dX6_send_51 : decode cX6_send 51 = .ok (.iload_n 2, 1) := by decide +kernel
theorem dX6_send_52 : decode cX6_send 52 = .ok (.aload_n 0, 1) := by decide +kernel
theorem dX6_send_53 : decode cX6_send 53 = .ok (.getfield 21, 3) := by decide +kernel
theorem dX6_send_56 : decode cX6_send 56 = .ok (.getfield 86, 3) := by decide +kernel
theorem dX6_send_59 : decode cX6_send 59 = .ok (.iload_n 1, 1) := by decide +kernel
theorem dX6_send_60 : decode cX6_send 60 = .ok (.iaload, 1) := by decide +kernel
theorem dX6_send_61 : decode cX6_send 61 = .ok (.isub, 1) := by decide +kernel
theorem dX6_send_62 : decode cX6_send 62 = .ok (.invokestatic 114, 3) := by decide +kernel
theorem dX6_send_65 : decode cX6_send 65 = .ok (.istore 4, 2) := by decide +kernel
theorem dX6_send_67 : decode cX6_send 67 = .ok (.aload_n 0, 1) := by decide +kernel
theorem dX6_send_68 : decode cX6_send 68 = .ok (.getfield 21, 3) := by decide +kernel
theorem dX6_send_71 : decode cX6_send 71 = .ok (.getfield 119, 3) := by decide +kernel
theorem dX6_send_74 : decode cX6_send 74 = .ok (.iload_n 1, 1) := by decide +kernel
theorem dX6_send_75 : decode cX6_send 75 = .ok (.iload 4, 2) := by decide +kernel
theorem dX6_send_77 : decode cX6_send 77 = .ok (.ifCond .le 10, 3) := by decide +kernel
theorem dX6_send_80 : decode cX6_send 80 = .ok (.iconst 2, 1) := by decide +kernel
theorem dX6_send_81 : decode cX6_send 81 = .ok (.iload 4, 2) := by decide +kernel
theorem dX6_send_83 : decode cX6_send 83 = .ok (.imul, 1) := by decide +kernel
theorem dX6_send_84 : decode cX6_send 84 = .ok (.goto 19, 3) := by decide +kernel
theorem dX6_send_87 : decode cX6_send 87 = .ok (.iload_n 3, 1) := by decide +kernel
theorem dX6_send_88 : decode cX6_send 88 = .ok (.aload_n 0, 1) := by decide +kernel
theorem dX6_send_89 : decode cX6_send 89 = .ok (.getfield 21, 3) := by decide +kernel
theorem dX6_send_92 : decode cX6_send 92 = .ok (.getfield 89, 3) := by decide +kernel
theorem dX6_send_95 : decode cX6_send 95 = .ok (.iload_n 1, 1) := by decide +kernel
theorem dX6_send_96 : decode cX6_send 96 = .ok (.iaload, 1) := by decide +kernel
theorem dX6_send_97 : decode cX6_send 97 = .ok (.isub, 1) := by decide +kernel
theorem dX6_send_98 : decode cX6_send 98 = .ok (.invokestatic 114, 3) := by decide +kernel
theorem dX6_send_101 : decode cX6_send 101 = .ok (.iconst 5, 1) := by decide +kernel
theorem dX6_send_102 : decode cX6_send 102 = .ok (.idiv, 1) := by decide +kernel
theorem dX6_send_103 : decode cX6_send 103 = .ok (.iastore, 1) := by decide +kernel
theorem dX6_send_104 : decode cX6_send 104 = .ok (.aload_n 0, 1) := by decide +kernel
theorem dX6_send_105 : decode cX6_send 105 = .ok (.getfield 21, 3) := by decide +kernel
theorem dX6_send_108 : decode cX6_send 108 = .ok (.getfield 86, 3) := by decide +kernel
theorem dX6_send_111 : decode cX6_send 111 = .ok (.iload_n 1, 1) := by decide +kernel
theorem dX6_send_112 : decode cX6_send 112 = .ok (.iload_n 2, 1) := by decide +kernel
theorem dX6_send_113 : decode cX6_send 113 = .ok (.iastore, 1) := by decide +kernel
theorem dX6_send_114 : decode cX6_send 114 = .ok (.aload_n 0, 1) := by decide +kernel
theorem dX6_send_115 : decode cX6_send 115 = .ok (.getfield 21, 3) := by decide +kernel
theorem dX6_send_118 : decode cX6_send 118 = .ok (.getfield 89, 3) := by decide +kernel
theorem dX6_send_121 : decode cX6_send 121 = .ok (.iload_n 1, 1) := by decide +kernel
theorem dX6_send_122 : decode cX6_send 122 = .ok (.iload_n 3, 1) := by decide +kernel
theorem dX6_send_123 : decode cX6_send 123 = .ok (.iastore, 1) := by decide +kernel
theorem dX6_send_124 : decode cX6_send 124 = .ok (.aload_n 0, 1) := by decide +kernel
theorem dX6_send_125 : decode cX6_send 125 = .ok (.getfield 21, 3) := by decide +kernel
theorem dX6_send_128 : decode cX6_send 128 = .ok (.getfield 119, 3) := by decide +kernel
theorem dX6_send_131 : decode cX6_send 131 = .ok (.iload_n 1, 1) := by decide +kernel
theorem dX6_send_132 : decode cX6_send 132 = .ok (.iaload, 1) := by decide +kernel
theorem dX6_send_133 : decode cX6_send 133 = .ok (.ireturn, 1) := by decide +kernel
set_option maxRecDepth 20000 in
theorem ggX6_organTold_X5_tune : GoodIn wsX6_organTold wsX5_tune := goodIn_r _ [7, 8, 9, 10, 11, 12, 6, 13, 32, 33, 34, 35, 36, 37, 38, 39, 40, 41, 42, 43, 44, 45, 46, 47, 48, 49, 50, 51, 52] (by decide +kernel) (by decide +kernel)
set_option maxRecDepth 20000 in
theorem gX6_organTold_X5_tune : GoodIn wsX6_organTold (wsV RX6 125 RX5 yX5_tune wsX5_tune) := goodIn_app (goodIn_of _ (by decide +kernel)) ggX6_organTold_X5_tune
set_option maxRecDepth 20000 in
theorem ggX6_organTold_X5_complaintsOf : GoodIn wsX6_organTold wsX5_complaintsOf := goodIn_r _ [17, 18, 19, 32, 33, 34, 35, 36, 37, 38, 39, 40, 41, 42, 43, 44, 45, 46, 47, 48, 49, 50, 51, 52] (by decide +kernel) (by decide +kernel)
set_option maxRecDepth 20000 in
theorem gX6_organTold_X5_complaintsOf : GoodIn wsX6_organTold (wsV RX6 62 RX5 yX5_complaintsOf wsX5_complaintsOf) := goodIn_app (goodIn_of _ (by decide +kernel)) ggX6_organTold_X5_complaintsOf
set_option maxRecDepth 20000 in
theorem ggX6_organTold_X5_banishments : GoodIn wsX6_organTold wsX5_banishments := goodIn_r _ [23, 24, 25, 32, 33, 34, 35, 36, 37, 38, 39, 40, 41, 42, 43, 44, 45, 46, 47, 48, 49, 50, 51, 52] (by decide +kernel) (by decide +kernel)
set_option maxRecDepth 20000 in
theorem gX6_organTold_X5_banishments : GoodIn wsX6_organTold (wsV RX6 128 RX5 yX5_banishments wsX5_banishments) := goodIn_app (goodIn_of _ (by decide +kernel)) ggX6_organTold_X5_banishments
theorem dX6_organTold_0 : decode cX6_organTold 0 = .ok (.bipush 11, 2) := by decide +kernel
theorem dX6_organTold_2 : decode cX6_organTold 2 = .ok (.newarray .int, 2) := by decide +kernel
theorem dX6_organTold_4 : decode cX6_organTold 4 = .ok (.dup, 1) := by decide +kernel
theorem dX6_organTold_5 : decode cX6_organTold 5 = .ok (.iconst 0, 1) := by decide +kernel
theorem dX6_organTold_6 : decode cX6_organTold 6 = .ok (.aload_n 0, 1) := by decide +kernel
theorem dX6_organTold_7 : decode cX6_organTold 7 = .ok (.getfield 21, 3) := by decide +kernel
theorem dX6_organTold_10 : decode cX6_organTold 10 = .ok (.getfield 86, 3) := by decide +kernel
theorem dX6_organTold_13 : decode cX6_organTold 13 = .ok (.iload_n 1, 1) := by decide +kernel
theorem dX6_organTold_14 : decode cX6_organTold 14 = .ok (.iaload, 1) := by decide +kernel
theorem dX6_organTold_15 : decode cX6_organTold 15 = .ok (.iastore, 1) := by decide +kernel
theorem dX6_organTold_16 : decode cX6_organTold 16 = .ok (.dup, 1) := by decide +kernel
theorem dX6_organTold_17 : decode cX6_organTold 17 = .ok (.iconst 1, 1) := by decide +kernel
theorem dX6_organTold_18 : decode cX6_organTold 18 = .ok (.aload_n 0, 1) := by decide +kernel
theorem dX6_organTold_19 : decode cX6_organTold 19 = .ok (.getfield 21, 3) := by decide +kernel
theorem dX6_organTold_22 : decode cX6_organTold 22 = .ok (.getfield 89, 3) := by decide +kernel
theorem dX6_organTold_25 : decode cX6_organTold 25 = .ok (.iload_n 1, 1) := by decide +kernel
theorem dX6_organTold_26 : decode cX6_organTold 26 = .ok (.iaload, 1) := by decide +kernel
theorem dX6_organTold_27 : decode cX6_organTold 27 = .ok (.iastore, 1) := by decide +kernel
theorem dX6_organTold_28 : decode cX6_organTold 28 = .ok (.dup, 1) := by decide +kernel
theorem dX6_organTold_29 : decode cX6_organTold 29 = .ok (.iconst 2, 1) := by decide +kernel
theorem dX6_organTold_30 : decode cX6_organTold 30 = .ok (.aload_n 0, 1) := by decide +kernel
theorem dX6_organTold_31 : decode cX6_organTold 31 = .ok (.getfield 21, 3) := by decide +kernel
theorem dX6_organTold_34 : decode cX6_organTold 34 = .ok (.getfield 119, 3) := by decide +kernel
theorem dX6_organTold_37 : decode cX6_organTold 37 = .ok (.iload_n 1, 1) := by decide +kernel
theorem dX6_organTold_38 : decode cX6_organTold 38 = .ok (.iaload, 1) := by decide +kernel
theorem dX6_organTold_39 : decode cX6_organTold 39 = .ok (.iastore, 1) := by decide +kernel
theorem dX6_organTold_40 : decode cX6_organTold 40 = .ok (.dup, 1) := by decide +kernel
theorem dX6_organTold_41 : decode cX6_organTold 41 = .ok (.iconst 3, 1) := by decide +kernel
theorem dX6_organTold_42 : decode cX6_organTold 42 = .ok (.aload_n 0, 1) := by decide +kernel
theorem dX6_organTold_43 : decode cX6_organTold 43 = .ok (.getfield 21, 3) := by decide +kernel
theorem dX6_organTold_46 : decode cX6_organTold 46 = .ok (.getfield 92, 3) := by decide +kernel
theorem dX6_organTold_49 : decode cX6_organTold 49 = .ok (.iload_n 1, 1) := by decide +kernel
theorem dX6_organTold_50 : decode cX6_organTold 50 = .ok (.iaload, 1) := by decide +kernel
theorem dX6_organTold_51 : decode cX6_organTold 51 = .ok (.iastore, 1) := by decide +kernel
theorem dX6_organTold_52 : decode cX6_organTold 52 = .ok (.dup, 1) := by decide +kernel
theorem dX6_organTold_53 : decode cX6_organTold 53 = .ok (.iconst 4, 1) := by decide +kernel
theorem dX6_organTold_54 : decode cX6_organTold 54 = .ok (.aload_n 0, 1) := by decide +kernel
theorem dX6_organTold_55 : decode cX6_organTold 55 = .ok (.getfield 21, 3) := by decide +kernel
theorem dX6_organTold_58 : decode cX6_organTold 58 = .ok (.getfield 122, 3) := by decide +kernel
theorem dX6_organTold_61 : decode cX6_organTold 61 = .ok (.iload_n 1, 1) := by decide +kernel
theorem dX6_organTold_62 : decode cX6_organTold 62 = .ok (.iaload, 1) := by decide +kernel
theorem dX6_organTold_63 : decode cX6_organTold 63 = .ok (.iastore, 1) := by decide +kernel
theorem dX6_organTold_64 : decode cX6_organTold 64 = .ok (.dup, 1) := by decide +kernel
theorem dX6_organTold_65 : decode cX6_organTold 65 = .ok (.iconst 5, 1) := by decide +kernel
theorem dX6_organTold_66 : decode cX6_organTold 66 = .ok (.aload_n 0, 1) := by decide +kernel
theorem dX6_organTold_67 : decode cX6_organTold 67 = .ok (.getfield 21, 3) := by decide +kernel
theorem dX6_organTold_70 : decode cX6_organTold 70 = .ok (.getfield 95, 3) := by decide +kernel
theorem dX6_organTold_73 : decode cX6_organTold 73 = .ok (.iload_n 1, 1) := by decide +kernel
theorem dX6_organTold_74 : decode cX6_organTold 74 = .ok (.iaload, 1) := by decide +kernel
theorem dX6_organTold_75 : decode cX6_organTold 75 = .ok (.iastore, 1) := by decide +kernel
theorem dX6_organTold_76 : decode cX6_organTold 76 = .ok (.dup, 1) := by decide +kernel
theorem dX6_organTold_77 : decode cX6_organTold 77 = .ok (.bipush 6, 2) := by decide +kernel
theorem dX6_organTold_79 : decode cX6_organTold 79 = .ok (.aload_n 0, 1) := by decide +kernel
theorem dX6_organTold_80 : decode cX6_organTold 80 = .ok (.getfield 21, 3) := by decide +kernel
theorem dX6_organTold_83 : decode cX6_organTold 83 = .ok (.getfield 105, 3) := by decide +kernel
theorem dX6_organTold_86 : decode cX6_organTold 86 = .ok (.iload_n 1, 1) := by decide +kernel
theorem dX6_organTold_87 : decode cX6_organTold 87 = .ok (.iaload, 1) := by decide +kernel
theorem dX6_organTold_88 : decode cX6_organTold 88 = .ok (.iastore, 1) := by decide +kernel
theorem dX6_organTold_89 : decode cX6_organTold 89 = .ok (.dup, 1) := by decide +kernel
theorem dX6_organTold_90 : decode cX6_organTold 90 = .ok (.bipush 7, 2) := by decide +kernel
theorem dX6_organTold_92 : decode cX6_organTold 92 = .ok (.aload_n 0, 1) := by decide +kernel
theorem dX6_organTold_93 : decode cX6_organTold 93 = .ok (.getfield 21, 3) := by decide +kernel
theorem dX6_organTold_96 : decode cX6_organTold 96 = .ok (.iload_n 1, 1) := by decide +kernel
theorem dX6_organTold_97 : decode cX6_organTold 97 = .ok (.invokevirtual 125, 3) := by decide +kernel
theorem dX6_organTold_100 : decode cX6_organTold 100 = .ok (.iastore, 1) := by decide +kernel
theorem dX6_organTold_101 : decode cX6_organTold 101 = .ok (.dup, 1) := by decide +kernel
theorem dX6_organTold_102 : decode cX6_organTold 102 = .ok (.bipush 8, 2) := by decide +kernel
theorem dX6_organTold_104 : decode cX6_organTold 104 = .ok (.aload_n 0, 1) := by decide +kernel
theorem dX6_organTold_105 : decode cX6_organTold 105 = .ok (.getfield 21, 3) := by decide +kernel
theorem dX6_organTold_108 : decode cX6_organTold 108 = .ok (.getfield 108, 3) := by decide +kernel
theorem dX6_organTold_111 : decode cX6_organTold 111 = .ok (.bipush 6, 2) := by decide +kernel
theorem dX6_organTold_113 : decode cX6_organTold 113 = .ok (.iload_n 1, 1) := by decide +kernel
theorem dX6_organTold_114 : decode cX6_organTold 114 = .ok (.imul, 1) := by decide +kernel
theorem dX6_organTold_115 : decode cX6_organTold 115 = .ok (.aload_n 0, 1) := by decide +kernel
theorem dX6_organTold_116 : decode cX6_organTold 116 = .ok (.getfield 21, 3) := by decide +kernel
theorem dX6_organTold_119 : decode cX6_organTold 119 = .ok (.iload_n 1, 1) := by decide +kernel
theorem dX6_organTold_120 : decode cX6_organTold 120 = .ok (.invokevirtual 125, 3) := by decide +kernel
theorem dX6_organTold_123 : decode cX6_organTold 123 = .ok (.iadd, 1) := by decide +kernel
theorem dX6_organTold_124 : decode cX6_organTold 124 = .ok (.iaload, 1) := by decide +kernel
theorem dX6_organTold_125 : decode cX6_organTold 125 = .ok (.iastore, 1) := by decide +kernel
theorem dX6_organTold_126 : decode cX6_organTold 126 = .ok (.dup, 1) := by decide +kernel
theorem dX6_organTold_127 : decode cX6_organTold 127 = .ok (.bipush 9, 2) := by decide +kernel
theorem dX6_organTold_129 : decode cX6_organTold 129 = .ok (.aload_n 0, 1) := by decide +kernel
theorem dX6_organTold_130 : decode cX6_organTold 130 = .ok (.getfield 21, 3) := by decide +kernel
theorem dX6_organTold_133 : decode cX6_organTold 133 = .ok (.iconst (-1), 1) := by decide +kernel
theorem dX6_organTold_134 : decode cX6_organTold 134 = .ok (.iload_n 1, 1) := by decide +kernel
theorem dX6_organTold_135 : decode cX6_organTold 135 = .ok (.invokevirtual 62, 3) := by decide +kernel
theorem dX6_organTold_138 : decode cX6_organTold 138 = .ok (.iastore, 1) := by decide +kernel
theorem dX6_organTold_139 : decode cX6_organTold 139 = .ok (.dup, 1) := by decide +kernel
theorem dX6_organTold_140 : decode cX6_organTold 140 = .ok (.bipush 10, 2) := by decide +kernel
theorem dX6_organTold_142 : decode cX6_organTold 142 = .ok (.aload_n 0, 1) := by decide +kernel
theorem dX6_organTold_143 : decode cX6_organTold 143 = .ok (.getfield 21, 3) := by decide +kernel
theorem dX6_organTold_146 : decode cX6_organTold 146 = .ok (.iload_n 1, 1) := by decide +kernel
theorem dX6_organTold_147 : decode cX6_organTold 147 = .ok (.invokevirtual 128, 3) := by decide +kernel
theorem dX6_organTold_150 : decode cX6_organTold 150 = .ok (.iastore, 1) := by decide +kernel
theorem dX6_organTold_151 : decode cX6_organTold 151 = .ok (.astore_n 3, 1) := by decide +kernel
theorem dX6_organTold_152 : decode cX6_organTold 152 = .ok (.aload_n 3, 1) := by decide +kernel
theorem dX6_organTold_153 : decode cX6_organTold 153 = .ok (.iload_n 2, 1) := by decide +kernel
theorem dX6_organTold_154 : decode cX6_organTold 154 = .ok (.iaload, 1) := by decide +kernel
theorem dX6_organTold_155 : decode cX6_organTold 155 = .ok (.ireturn, 1) := by decide +kernel
set_option maxRecDepth 20000 in
theorem ggX6_organ_X6_isOrgan : GoodIn wsX6_organ wsX6_isOrgan := goodIn_r _ [6, 7, 8, 9, 5, 10, 43, 44, 45, 46, 47, 48, 49, 50, 51, 52, 53, 54, 55, 56, 57, 58, 59, 60, 61, 62, 63, 64, 65, 66, 67, 68, 69] (by decide +kernel) (by decide +kernel)
set_option maxRecDepth 20000 in
theorem gX6_organ_X6_isOrgan : GoodIn wsX6_organ (wsV RX6 99 RX6 yX6_isOrgan wsX6_isOrgan) := goodIn_app (goodIn_of _ (by decide +kernel)) ggX6_organ_X6_isOrgan
set_option maxRecDepth 20000 in
theorem ggX6_organ_X6_isIn : GoodIn wsX6_organ wsX6_isIn := goodIn_r _ [10] (by decide +kernel) (by decide +kernel)
set_option maxRecDepth 20000 in
theorem gX6_organ_X6_isIn : GoodIn wsX6_organ (va_wsS RX6 35 yX6_isIn wsX6_isIn) := goodIn_app (goodIn_of _ (by decide +kernel)) ggX6_organ_X6_isIn
set_option maxRecDepth 20000 in
theorem ggX6_organ_X6_organTold : GoodIn wsX6_organ wsX6_organTold := goodIn_r _ [14, 15, 7, 16, 17, 18, 19, 20, 21, 22, 23, 24, 25, 26, 27, 28, 29, 30, 31, 32, 33, 34, 35, 36, 37, 38, 43, 44, 45, 46, 47, 48, 49, 50, 51, 52, 53, 54, 55, 56, 57, 58, 59, 60, 61, 62, 63, 64, 65, 66, 67, 68, 69] (by decide +kernel) (by decide +kernel)
set_option maxRecDepth 20000 in
theorem gX6_organ_X6_organTold : GoodIn wsX6_organ (wsV RX6 131 RX6 yX6_organTold wsX6_organTold) := goodIn_app (goodIn_of _ (by decide +kernel)) ggX6_organ_X6_organTold
set_option maxRecDepth 20000 in
theorem ggX6_organ_X6_no : GoodIn wsX6_organ wsX6_no := goodIn_r _ [42, 1, 43, 44, 45, 46, 47, 48] (by decide +kernel) (by decide +kernel)
set_option maxRecDepth 20000 in
theorem gX6_organ_X6_no : GoodIn wsX6_organ (wsV RX6 49 RX6 yX6_no wsX6_no) := goodIn_app (goodIn_of _ (by decide +kernel)) ggX6_organ_X6_no
theorem dX6_organ_0 : decode cX6_organ 0 = .ok (.aload_n 0, 1) := by decide +kernel
theorem dX6_organ_1 : decode cX6_organ 1 = .ok (.iconst 0, 1) := by decide +kernel
theorem dX6_organ_2 : decode cX6_organ 2 = .ok (.putfield 28, 3) := by decide +kernel
theorem dX6_organ_5 : decode cX6_organ 5 = .ok (.aload_n 0, 1) := by decide +kernel
theorem dX6_organ_6 : decode cX6_organ 6 = .ok (.iload_n 1, 1) := by decide +kernel
