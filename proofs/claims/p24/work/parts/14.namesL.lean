theorem dL_drawn_0 : decode cL_drawn 0 = .ok (.iload_n 1, 1) := by decide +kernel
theorem dL_drawn_1 : decode cL_drawn 1 = .ok (.aload_n 0, 1) := by decide +kernel
theorem dL_drawn_2 : decode cL_drawn 2 = .ok (.arraylength, 1) := by decide +kernel
theorem dL_drawn_3 : decode cL_drawn 3 = .ok (.if_icmp .ge 9, 3) := by decide +kernel
theorem dL_drawn_6 : decode cL_drawn 6 = .ok (.aload_n 0, 1) := by decide +kernel
theorem dL_drawn_7 : decode cL_drawn 7 = .ok (.iload_n 1, 1) := by decide +kernel
theorem dL_drawn_8 : decode cL_drawn 8 = .ok (.iaload, 1) := by decide +kernel
theorem dL_drawn_9 : decode cL_drawn 9 = .ok (.goto 11, 3) := by decide +kernel
theorem dL_drawn_12 : decode cL_drawn 12 = .ok (.ldc 7, 2) := by decide +kernel
theorem dL_drawn_14 : decode cL_drawn 14 = .ok (.iload_n 1, 1) := by decide +kernel
theorem dL_drawn_15 : decode cL_drawn 15 = .ok (.imul, 1) := by decide +kernel
theorem dL_drawn_16 : decode cL_drawn 16 = .ok (.sipush 17393, 3) := by decide +kernel
theorem dL_drawn_19 : decode cL_drawn 19 = .ok (.iadd, 1) := by decide +kernel
theorem dL_drawn_20 : decode cL_drawn 20 = .ok (.istore_n 3, 1) := by decide +kernel
theorem dL_drawn_21 : decode cL_drawn 21 = .ok (.iload_n 3, 1) := by decide +kernel
theorem dL_drawn_22 : decode cL_drawn 22 = .ok (.iconst 1, 1) := by decide +kernel
theorem dL_drawn_23 : decode cL_drawn 23 = .ok (.iushr, 1) := by decide +kernel
theorem dL_drawn_24 : decode cL_drawn 24 = .ok (.iload_n 2, 1) := by decide +kernel
theorem dL_drawn_25 : decode cL_drawn 25 = .ok (.irem, 1) := by decide +kernel
theorem dL_drawn_26 : decode cL_drawn 26 = .ok (.ireturn, 1) := by decide +kernel
theorem dL_worth_0 : decode cL_worth 0 = .ok (.iload_n 0, 1) := by decide +kernel
theorem dL_worth_1 : decode cL_worth 1 = .ok (.bipush 40, 2) := by decide +kernel
theorem dL_worth_3 : decode cL_worth 3 = .ok (.if_icmp .ge 13, 3) := by decide +kernel
theorem dL_worth_6 : decode cL_worth 6 = .ok (.bipush 10, 2) := by decide +kernel
theorem dL_worth_8 : decode cL_worth 8 = .ok (.iload_n 0, 1) := by decide +kernel
theorem dL_worth_9 : decode cL_worth 9 = .ok (.bipush 10, 2) := by decide +kernel
theorem dL_worth_11 : decode cL_worth 11 = .ok (.irem, 1) := by decide +kernel
theorem dL_worth_12 : decode cL_worth 12 = .ok (.isub, 1) := by decide +kernel
theorem dL_worth_13 : decode cL_worth 13 = .ok (.goto 5, 3) := by decide +kernel
theorem dL_worth_16 : decode cL_worth 16 = .ok (.bipush (-5), 2) := by decide +kernel
theorem dL_worth_18 : decode cL_worth 18 = .ok (.ireturn, 1) := by decide +kernel
set_option maxRecDepth 20000 in
theorem ggL_isLaidRight_X2_placeOf : GoodIn wsL_isLaidRight wsX2_placeOf := goodIn_ca (goodIn_r _ [5, 6, 7, 8, 9, 10, 11, 12, 13, 14, 15, 4, 16, 17, 18, 19, 72, 73, 74, 75, 76, 77, 78, 79, 80, 81, 82, 83, 84, 85, 86, 87] (by decide +kernel) (by decide +kernel)) (goodIn_sub (fun _ h => List.mem_cons_of_mem _ (List.mem_append_left _ (List.mem_append_right _ h))) (by decide +kernel))
set_option maxRecDepth 20000 in
theorem gL_isLaidRight_X2_placeOf : GoodIn wsL_isLaidRight (wsV RL 8 RX2 yX2_placeOf wsX2_placeOf) := goodIn_app (goodIn_of _ (by decide +kernel)) ggL_isLaidRight_X2_placeOf
set_option maxRecDepth 20000 in
theorem ggL_isLaidRight_L_worth : GoodIn wsL_isLaidRight wsL_worth := goodIn_r _ [23] (by decide +kernel) (by decide +kernel)
set_option maxRecDepth 20000 in
theorem gL_isLaidRight_L_worth : GoodIn wsL_isLaidRight (va_wsS RL 14 yL_worth wsL_worth) := goodIn_app (goodIn_of _ (by decide +kernel)) ggL_isLaidRight_L_worth
set_option maxRecDepth 20000 in
theorem ggL_isLaidRight_X2_led : GoodIn wsL_isLaidRight wsX2_led := goodIn_r _ [27, 13, 72, 73, 74, 75, 76, 77, 78, 79, 80, 81, 82] (by decide +kernel) (by decide +kernel)
set_option maxRecDepth 20000 in
theorem gL_isLaidRight_X2_led : GoodIn wsL_isLaidRight (wsV RL 19 RX2 yX2_led wsX2_led) := goodIn_app (goodIn_of _ (by decide +kernel)) ggL_isLaidRight_X2_led
set_option maxRecDepth 20000 in
theorem ggL_isLaidRight_X2_cards : GoodIn wsL_isLaidRight wsX2_cards := goodIn_ca (goodIn_r _ [31, 32, 33, 10, 34, 35, 4, 36, 37, 38, 39, 40, 9, 11, 41, 42, 43, 44, 45, 46, 47, 83, 84, 85, 86, 87, 72, 73, 74, 75, 76, 77, 78, 79, 80, 81, 82] (by decide +kernel) (by decide +kernel)) (goodIn_sub (fun _ h => List.mem_cons_of_mem _ (List.mem_append_right _ h)) (by decide +kernel))
set_option maxRecDepth 20000 in
theorem gL_isLaidRight_X2_cards : GoodIn wsL_isLaidRight (wsV RL 23 RX2 yX2_cards wsX2_cards) := goodIn_app (goodIn_of _ (by decide +kernel)) ggL_isLaidRight_X2_cards
set_option maxRecDepth 20000 in
theorem ggL_isLaidRight_X2_pile : GoodIn wsL_isLaidRight wsX2_pile := goodIn_r _ [51, 52, 72, 73, 74, 75, 76, 77, 78, 79, 80, 81, 82] (by decide +kernel) (by decide +kernel)
set_option maxRecDepth 20000 in
theorem gL_isLaidRight_X2_pile : GoodIn wsL_isLaidRight (wsV RL 26 RX2 yX2_pile wsX2_pile) := goodIn_app (goodIn_of _ (by decide +kernel)) ggL_isLaidRight_X2_pile
set_option maxRecDepth 20000 in
theorem ggL_isLaidRight_X2_tricks : GoodIn wsL_isLaidRight wsX2_tricks := goodIn_ca (goodIn_r _ [56, 32, 33, 57, 34, 35, 4, 36, 37, 38, 39, 40, 9, 11, 83, 84, 85, 86, 87, 72, 73, 74, 75, 76, 77, 78, 79, 80, 81, 82] (by decide +kernel) (by decide +kernel)) (goodIn_sub (fun _ h => List.mem_cons_of_mem _ (List.mem_append_right _ h)) (by decide +kernel))
set_option maxRecDepth 20000 in
theorem gL_isLaidRight_X2_tricks : GoodIn wsL_isLaidRight (wsV RL 29 RX2 yX2_tricks wsX2_tricks) := goodIn_app (goodIn_of _ (by decide +kernel)) ggL_isLaidRight_X2_tricks
set_option maxRecDepth 20000 in
theorem ggL_isLaidRight_X2_points : GoodIn wsL_isLaidRight wsX2_points := goodIn_ca (goodIn_r _ [61, 32, 33, 62, 34, 35, 4, 36, 37, 38, 39, 40, 9, 11, 83, 84, 85, 86, 87, 72, 73, 74, 75, 76, 77, 78, 79, 80, 81, 82] (by decide +kernel) (by decide +kernel)) (goodIn_sub (fun _ h => List.mem_cons_of_mem _ (List.mem_append_right _ h)) (by decide +kernel))
set_option maxRecDepth 20000 in
theorem gL_isLaidRight_X2_points : GoodIn wsL_isLaidRight (wsV RL 32 RX2 yX2_points wsX2_points) := goodIn_app (goodIn_of _ (by decide +kernel)) ggL_isLaidRight_X2_points
set_option maxRecDepth 20000 in
theorem ggL_isLaidRight_X2_cardAt : GoodIn wsL_isLaidRight wsX2_cardAt := goodIn_ca (goodIn_r _ [66, 32, 33, 10, 34, 35, 4, 36, 37, 38, 39, 40, 9, 11, 17, 18, 19, 83, 84, 85, 86, 87, 72, 73, 74, 75, 76, 77, 78, 79, 80, 81, 82] (by decide +kernel) (by decide +kernel)) (goodIn_sub (fun _ h => List.mem_cons_of_mem _ (List.mem_append_right _ h)) (by decide +kernel))
set_option maxRecDepth 20000 in
theorem gL_isLaidRight_X2_cardAt : GoodIn wsL_isLaidRight (wsV RL 35 RX2 yX2_cardAt wsX2_cardAt) := goodIn_app (goodIn_of _ (by decide +kernel)) ggL_isLaidRight_X2_cardAt
set_option maxRecDepth 20000 in
theorem ggL_isLaidRight_X2_turn : GoodIn wsL_isLaidRight wsX2_turn := goodIn_r _ [70, 71, 72, 73, 74, 75, 76, 77, 78, 79, 80, 81, 82] (by decide +kernel) (by decide +kernel)
set_option maxRecDepth 20000 in
theorem gL_isLaidRight_X2_turn : GoodIn wsL_isLaidRight (wsV RL 39 RX2 yX2_turn wsX2_turn) := goodIn_app (goodIn_of _ (by decide +kernel)) ggL_isLaidRight_X2_turn
theorem dL_isLaidRight_0 : decode cL_isLaidRight 0 = .ok (.iconst 0, 1) := by decide +kernel
theorem dL_isLaidRight_1 : decode cL_isLaidRight 1 = .ok (.istore_n 2, 1) := by decide +kernel
theorem dL_isLaidRight_2 : decode cL_isLaidRight 2 = .ok (.iconst 0, 1) := by decide +kernel
theorem dL_isLaidRight_3 : decode cL_isLaidRight 3 = .ok (.istore_n 3, 1) := by decide +kernel
theorem dL_isLaidRight_4 : decode cL_isLaidRight 4 = .ok (.iconst 0, 1) := by decide +kernel
theorem dL_isLaidRight_5 : decode cL_isLaidRight 5 = .ok (.istore 4, 2) := by decide +kernel
theorem dL_isLaidRight_7 : decode cL_isLaidRight 7 = .ok (.iconst 0, 1) := by decide +kernel
theorem dL_isLaidRight_8 : decode cL_isLaidRight 8 = .ok (.istore 5, 2) := by decide +kernel
theorem dL_isLaidRight_10 : decode cL_isLaidRight 10 = .ok (.iconst 0, 1) := by decide +kernel
theorem dL_isLaidRight_11 : decode cL_isLaidRight 11 = .ok (.istore 6, 2) := by decide +kernel
theorem dL_isLaidRight_13 : decode cL_isLaidRight 13 = .ok (.iconst 1, 1) := by decide +kernel
theorem dL_isLaidRight_14 : decode cL_isLaidRight 14 = .ok (.istore 7, 2) := by decide +kernel
theorem dL_isLaidRight_16 : decode cL_isLaidRight 16 = .ok (.iconst 0, 1) := by decide +kernel
theorem dL_isLaidRight_17 : decode cL_isLaidRight 17 = .ok (.istore 8, 2) := by decide +kernel
theorem dL_isLaidRight_19 : decode cL_isLaidRight 19 = .ok (.iload 8, 2) := by decide +kernel
theorem dL_isLaidRight_21 : decode cL_isLaidRight 21 = .ok (.bipush 42, 2) := by decide +kernel
theorem dL_isLaidRight_23 : decode cL_isLaidRight 23 = .ok (.if_icmp .ge 154, 3) := by decide +kernel
theorem dL_isLaidRight_26 : decode cL_isLaidRight 26 = .ok (.aload_n 0, 1) := by decide +kernel
theorem dL_isLaidRight_27 : decode cL_isLaidRight 27 = .ok (.iload 8, 2) := by decide +kernel
theorem dL_isLaidRight_29 : decode cL_isLaidRight 29 = .ok (.invokevirtual 8, 3) := by decide +kernel
theorem dL_isLaidRight_32 : decode cL_isLaidRight 32 = .ok (.istore 9, 2) := by decide +kernel
theorem dL_isLaidRight_34 : decode cL_isLaidRight 34 = .ok (.iload_n 2, 1) := by decide +kernel
theorem dL_isLaidRight_35 : decode cL_isLaidRight 35 = .ok (.iload 9, 2) := by decide +kernel
theorem dL_isLaidRight_37 : decode cL_isLaidRight 37 = .ok (.ifCond .eq 9, 3) := by decide +kernel
theorem dL_isLaidRight_40 : decode cL_isLaidRight 40 = .ok (.iload 9, 2) := by decide +kernel
theorem dL_isLaidRight_42 : decode cL_isLaidRight 42 = .ok (.iconst 1, 1) := by decide +kernel
theorem dL_isLaidRight_43 : decode cL_isLaidRight 43 = .ok (.if_icmp .ne 7, 3) := by decide +kernel
theorem dL_isLaidRight_46 : decode cL_isLaidRight 46 = .ok (.iconst 1, 1) := by decide +kernel
theorem dL_isLaidRight_47 : decode cL_isLaidRight 47 = .ok (.goto 4, 3) := by decide +kernel
theorem dL_isLaidRight_50 : decode cL_isLaidRight 50 = .ok (.iconst 0, 1) := by decide +kernel
theorem dL_isLaidRight_51 : decode cL_isLaidRight 51 = .ok (.iadd, 1) := by decide +kernel
theorem dL_isLaidRight_52 : decode cL_isLaidRight 52 = .ok (.istore_n 2, 1) := by decide +kernel
theorem dL_isLaidRight_53 : decode cL_isLaidRight 53 = .ok (.iload_n 3, 1) := by decide +kernel
theorem dL_isLaidRight_54 : decode cL_isLaidRight 54 = .ok (.iload 9, 2) := by decide +kernel
theorem dL_isLaidRight_56 : decode cL_isLaidRight 56 = .ok (.iconst 2, 1) := by decide +kernel
theorem dL_isLaidRight_57 : decode cL_isLaidRight 57 = .ok (.if_icmp .ne 7, 3) := by decide +kernel
theorem dL_isLaidRight_60 : decode cL_isLaidRight 60 = .ok (.iconst 1, 1) := by decide +kernel
theorem dL_isLaidRight_61 : decode cL_isLaidRight 61 = .ok (.goto 4, 3) := by decide +kernel
theorem dL_isLaidRight_64 : decode cL_isLaidRight 64 = .ok (.iconst 0, 1) := by decide +kernel
theorem dL_isLaidRight_65 : decode cL_isLaidRight 65 = .ok (.iadd, 1) := by decide +kernel
theorem dL_isLaidRight_66 : decode cL_isLaidRight 66 = .ok (.istore_n 3, 1) := by decide +kernel
theorem dL_isLaidRight_67 : decode cL_isLaidRight 67 = .ok (.iload 4, 2) := by decide +kernel
theorem dL_isLaidRight_69 : decode cL_isLaidRight 69 = .ok (.iload 9, 2) := by decide +kernel
theorem dL_isLaidRight_71 : decode cL_isLaidRight 71 = .ok (.iconst 3, 1) := by decide +kernel
theorem dL_isLaidRight_72 : decode cL_isLaidRight 72 = .ok (.if_icmp .ne 7, 3) := by decide +kernel
theorem dL_isLaidRight_75 : decode cL_isLaidRight 75 = .ok (.iconst 1, 1) := by decide +kernel
theorem dL_isLaidRight_76 : decode cL_isLaidRight 76 = .ok (.goto 4, 3) := by decide +kernel
theorem dL_isLaidRight_79 : decode cL_isLaidRight 79 = .ok (.iconst 0, 1) := by decide +kernel
theorem dL_isLaidRight_80 : decode cL_isLaidRight 80 = .ok (.iadd, 1) := by decide +kernel
theorem dL_isLaidRight_81 : decode cL_isLaidRight 81 = .ok (.istore 4, 2) := by decide +kernel
theorem dL_isLaidRight_83 : decode cL_isLaidRight 83 = .ok (.iload 5, 2) := by decide +kernel
theorem dL_isLaidRight_85 : decode cL_isLaidRight 85 = .ok (.iload 9, 2) := by decide +kernel
theorem dL_isLaidRight_87 : decode cL_isLaidRight 87 = .ok (.iconst 3, 1) := by decide +kernel
theorem dL_isLaidRight_88 : decode cL_isLaidRight 88 = .ok (.if_icmp .le 7, 3) := by decide +kernel
theorem dL_isLaidRight_91 : decode cL_isLaidRight 91 = .ok (.iconst 1, 1) := by decide +kernel
theorem dL_isLaidRight_92 : decode cL_isLaidRight 92 = .ok (.goto 4, 3) := by decide +kernel
theorem dL_isLaidRight_95 : decode cL_isLaidRight 95 = .ok (.iconst 0, 1) := by decide +kernel
theorem dL_isLaidRight_96 : decode cL_isLaidRight 96 = .ok (.iadd, 1) := by decide +kernel
theorem dL_isLaidRight_97 : decode cL_isLaidRight 97 = .ok (.istore 5, 2) := by decide +kernel
theorem dL_isLaidRight_99 : decode cL_isLaidRight 99 = .ok (.iload 6, 2) := by decide +kernel
theorem dL_isLaidRight_101 : decode cL_isLaidRight 101 = .ok (.iload 9, 2) := by decide +kernel
theorem dL_isLaidRight_103 : decode cL_isLaidRight 103 = .ok (.iconst 3, 1) := by decide +kernel
theorem dL_isLaidRight_104 : decode cL_isLaidRight 104 = .ok (.if_icmp .le 11, 3) := by decide +kernel
theorem dL_isLaidRight_107 : decode cL_isLaidRight 107 = .ok (.iload 8, 2) := by decide +kernel
theorem dL_isLaidRight_109 : decode cL_isLaidRight 109 = .ok (.invokestatic 14, 3) := by decide +kernel
theorem dL_isLaidRight_112 : decode cL_isLaidRight 112 = .ok (.goto 4, 3) := by decide +kernel
theorem dL_isLaidRight_115 : decode cL_isLaidRight 115 = .ok (.iconst 0, 1) := by decide +kernel
theorem dL_isLaidRight_116 : decode cL_isLaidRight 116 = .ok (.iadd, 1) := by decide +kernel
theorem dL_isLaidRight_117 : decode cL_isLaidRight 117 = .ok (.istore 6, 2) := by decide +kernel
theorem dL_isLaidRight_119 : decode cL_isLaidRight 119 = .ok (.iload 7, 2) := by decide +kernel
theorem dL_isLaidRight_121 : decode cL_isLaidRight 121 = .ok (.ifCond .eq 47, 3) := by decide +kernel
theorem dL_isLaidRight_124 : decode cL_isLaidRight 124 = .ok (.iload 9, 2) := by decide +kernel
theorem dL_isLaidRight_126 : decode cL_isLaidRight 126 = .ok (.iconst 3, 1) := by decide +kernel
theorem dL_isLaidRight_127 : decode cL_isLaidRight 127 = .ok (.if_icmp .ne 7, 3) := by decide +kernel
theorem dL_isLaidRight_130 : decode cL_isLaidRight 130 = .ok (.iconst 1, 1) := by decide +kernel
theorem dL_isLaidRight_131 : decode cL_isLaidRight 131 = .ok (.goto 4, 3) := by decide +kernel
theorem dL_isLaidRight_134 : decode cL_isLaidRight 134 = .ok (.iconst 0, 1) := by decide +kernel
theorem dL_isLaidRight_135 : decode cL_isLaidRight 135 = .ok (.aload_n 0, 1) := by decide +kernel
theorem dL_isLaidRight_136 : decode cL_isLaidRight 136 = .ok (.invokevirtual 19, 3) := by decide +kernel
theorem dL_isLaidRight_139 : decode cL_isLaidRight 139 = .ok (.iload 8, 2) := by decide +kernel
theorem dL_isLaidRight_141 : decode cL_isLaidRight 141 = .ok (.if_icmp .ne 7, 3) := by decide +kernel
theorem dL_isLaidRight_144 : decode cL_isLaidRight 144 = .ok (.iconst 1, 1) := by decide +kernel
theorem dL_isLaidRight_145 : decode cL_isLaidRight 145 = .ok (.goto 4, 3) := by decide +kernel
theorem dL_isLaidRight_148 : decode cL_isLaidRight 148 = .ok (.iconst 0, 1) := by decide +kernel
theorem dL_isLaidRight_149 : decode cL_isLaidRight 149 = .ok (.if_icmp .ne 19, 3) := by decide +kernel
theorem dL_isLaidRight_152 : decode cL_isLaidRight 152 = .ok (.iload 9, 2) := by decide +kernel
theorem dL_isLaidRight_154 : decode cL_isLaidRight 154 = .ok (.ifCond .lt 14, 3) := by decide +kernel
theorem dL_isLaidRight_157 : decode cL_isLaidRight 157 = .ok (.iload 9, 2) := by decide +kernel
theorem dL_isLaidRight_159 : decode cL_isLaidRight 159 = .ok (.bipush 6, 2) := by decide +kernel
theorem dL_isLaidRight_161 : decode cL_isLaidRight 161 = .ok (.if_icmp .ge 7, 3) := by decide +kernel
theorem dL_isLaidRight_164 : decode cL_isLaidRight 164 = .ok (.iconst 1, 1) := by decide +kernel
theorem dL_isLaidRight_165 : decode cL_isLaidRight 165 = .ok (.goto 4, 3) := by decide +kernel
theorem dL_isLaidRight_168 : decode cL_isLaidRight 168 = .ok (.iconst 0, 1) := by decide +kernel
theorem dL_isLaidRight_169 : decode cL_isLaidRight 169 = .ok (.istore 7, 2) := by decide +kernel
theorem dL_isLaidRight_171 : decode cL_isLaidRight 171 = .ok (.iinc 8 1, 3) := by decide +kernel
theorem dL_isLaidRight_174 : decode cL_isLaidRight 174 = .ok (.goto (-155), 3) := by decide +kernel
theorem dL_isLaidRight_177 : decode cL_isLaidRight 177 = .ok (.iload 7, 2) := by decide +kernel
theorem dL_isLaidRight_179 : decode cL_isLaidRight 179 = .ok (.ifCond .eq 85, 3) := by decide +kernel
theorem dL_isLaidRight_182 : decode cL_isLaidRight 182 = .ok (.iload_n 2, 1) := by decide +kernel
theorem dL_isLaidRight_183 : decode cL_isLaidRight 183 = .ok (.aload_n 0, 1) := by decide +kernel
theorem dL_isLaidRight_184 : decode cL_isLaidRight 184 = .ok (.iconst 0, 1) := by decide +kernel
theorem dL_isLaidRight_185 : decode cL_isLaidRight 185 = .ok (.invokevirtual 23, 3) := by decide +kernel
theorem dL_isLaidRight_188 : decode cL_isLaidRight 188 = .ok (.aload_n 0, 1) := by decide +kernel
theorem dL_isLaidRight_189 : decode cL_isLaidRight 189 = .ok (.iconst 1, 1) := by decide +kernel
theorem dL_isLaidRight_190 : decode cL_isLaidRight 190 = .ok (.invokevirtual 23, 3) := by decide +kernel
theorem dL_isLaidRight_193 : decode cL_isLaidRight 193 = .ok (.iadd, 1) := by decide +kernel
theorem dL_isLaidRight_194 : decode cL_isLaidRight 194 = .ok (.if_icmp .ne 70, 3) := by decide +kernel
theorem dL_isLaidRight_197 : decode cL_isLaidRight 197 = .ok (.iload_n 3, 1) := by decide +kernel
theorem dL_isLaidRight_198 : decode cL_isLaidRight 198 = .ok (.aload_n 0, 1) := by decide +kernel
theorem dL_isLaidRight_199 : decode cL_isLaidRight 199 = .ok (.invokevirtual 26, 3) := by decide +kernel
theorem dL_isLaidRight_202 : decode cL_isLaidRight 202 = .ok (.if_icmp .ne 62, 3) := by decide +kernel
theorem dL_isLaidRight_205 : decode cL_isLaidRight 205 = .ok (.iload 4, 2) := by decide +kernel
theorem dL_isLaidRight_207 : decode cL_isLaidRight 207 = .ok (.aload_n 0, 1) := by decide +kernel
theorem dL_isLaidRight_208 : decode cL_isLaidRight 208 = .ok (.invokevirtual 19, 3) := by decide +kernel
theorem dL_isLaidRight_211 : decode cL_isLaidRight 211 = .ok (.ifCond .ge 7, 3) := by decide +kernel
theorem dL_isLaidRight_214 : decode cL_isLaidRight 214 = .ok (.iconst 0, 1) := by decide +kernel
theorem dL_isLaidRight_215 : decode cL_isLaidRight 215 = .ok (.goto 4, 3) := by decide +kernel
theorem dL_isLaidRight_218 : decode cL_isLaidRight 218 = .ok (.iconst 1, 1) := by decide +kernel
theorem dL_isLaidRight_219 : decode cL_isLaidRight 219 = .ok (.if_icmp .ne 45, 3) := by decide +kernel
theorem dL_isLaidRight_222 : decode cL_isLaidRight 222 = .ok (.iload 5, 2) := by decide +kernel
theorem dL_isLaidRight_224 : decode cL_isLaidRight 224 = .ok (.iconst 2, 1) := by decide +kernel
theorem dL_isLaidRight_225 : decode cL_isLaidRight 225 = .ok (.aload_n 0, 1) := by decide +kernel
theorem dL_isLaidRight_226 : decode cL_isLaidRight 226 = .ok (.iconst 0, 1) := by decide +kernel
theorem dL_isLaidRight_227 : decode cL_isLaidRight 227 = .ok (.invokevirtual 29, 3) := by decide +kernel
theorem dL_isLaidRight_230 : decode cL_isLaidRight 230 = .ok (.aload_n 0, 1) := by decide +kernel
theorem dL_isLaidRight_231 : decode cL_isLaidRight 231 = .ok (.iconst 1, 1) := by decide +kernel
theorem dL_isLaidRight_232 : decode cL_isLaidRight 232 = .ok (.invokevirtual 29, 3) := by decide +kernel
theorem dL_isLaidRight_235 : decode cL_isLaidRight 235 = .ok (.iadd, 1) := by decide +kernel
theorem dL_isLaidRight_236 : decode cL_isLaidRight 236 = .ok (.imul, 1) := by decide +kernel
theorem dL_isLaidRight_237 : decode cL_isLaidRight 237 = .ok (.if_icmp .ne 27, 3) := by decide +kernel
theorem dL_isLaidRight_240 : decode cL_isLaidRight 240 = .ok (.aload_n 0, 1) := by decide +kernel
theorem dL_isLaidRight_241 : decode cL_isLaidRight 241 = .ok (.iconst 0, 1) := by decide +kernel
theorem dL_isLaidRight_242 : decode cL_isLaidRight 242 = .ok (.invokevirtual 32, 3) := by decide +kernel
theorem dL_isLaidRight_245 : decode cL_isLaidRight 245 = .ok (.aload_n 0, 1) := by decide +kernel
theorem dL_isLaidRight_246 : decode cL_isLaidRight 246 = .ok (.iconst 1, 1) := by decide +kernel
theorem dL_isLaidRight_247 : decode cL_isLaidRight 247 = .ok (.invokevirtual 32, 3) := by decide +kernel
theorem dL_isLaidRight_250 : decode cL_isLaidRight 250 = .ok (.iadd, 1) := by decide +kernel
theorem dL_isLaidRight_251 : decode cL_isLaidRight 251 = .ok (.iload 6, 2) := by decide +kernel
theorem dL_isLaidRight_253 : decode cL_isLaidRight 253 = .ok (.iconst 5, 1) := by decide +kernel
theorem dL_isLaidRight_254 : decode cL_isLaidRight 254 = .ok (.iload_n 1, 1) := by decide +kernel
theorem dL_isLaidRight_255 : decode cL_isLaidRight 255 = .ok (.imul, 1) := by decide +kernel
theorem dL_isLaidRight_256 : decode cL_isLaidRight 256 = .ok (.iadd, 1) := by decide +kernel
theorem dL_isLaidRight_257 : decode cL_isLaidRight 257 = .ok (.if_icmp .ne 7, 3) := by decide +kernel
theorem dL_isLaidRight_260 : decode cL_isLaidRight 260 = .ok (.iconst 1, 1) := by decide +kernel
theorem dL_isLaidRight_261 : decode cL_isLaidRight 261 = .ok (.goto 4, 3) := by decide +kernel
theorem dL_isLaidRight_264 : decode cL_isLaidRight 264 = .ok (.iconst 0, 1) := by decide +kernel
theorem dL_isLaidRight_265 : decode cL_isLaidRight 265 = .ok (.istore 7, 2) := by decide +kernel
theorem dL_isLaidRight_267 : decode cL_isLaidRight 267 = .ok (.iconst 0, 1) := by decide +kernel
theorem dL_isLaidRight_268 : decode cL_isLaidRight 268 = .ok (.istore 8, 2) := by decide +kernel
theorem dL_isLaidRight_270 : decode cL_isLaidRight 270 = .ok (.iload 8, 2) := by decide +kernel
theorem dL_isLaidRight_272 : decode cL_isLaidRight 272 = .ok (.iconst 2, 1) := by decide +kernel
theorem dL_isLaidRight_273 : decode cL_isLaidRight 273 = .ok (.if_icmp .ge 82, 3) := by decide +kernel
theorem dL_isLaidRight_276 : decode cL_isLaidRight 276 = .ok (.iconst 0, 1) := by decide +kernel
theorem dL_isLaidRight_277 : decode cL_isLaidRight 277 = .ok (.istore 9, 2) := by decide +kernel
theorem dL_isLaidRight_279 : decode cL_isLaidRight 279 = .ok (.iload 9, 2) := by decide +kernel
theorem dL_isLaidRight_281 : decode cL_isLaidRight 281 = .ok (.aload_n 0, 1) := by decide +kernel
theorem dL_isLaidRight_282 : decode cL_isLaidRight 282 = .ok (.iload 8, 2) := by decide +kernel
theorem dL_isLaidRight_284 : decode cL_isLaidRight 284 = .ok (.invokevirtual 23, 3) := by decide +kernel
theorem dL_isLaidRight_287 : decode cL_isLaidRight 287 = .ok (.if_icmp .ge 62, 3) := by decide +kernel
theorem dL_isLaidRight_290 : decode cL_isLaidRight 290 = .ok (.aload_n 0, 1) := by decide +kernel
theorem dL_isLaidRight_291 : decode cL_isLaidRight 291 = .ok (.iload 8, 2) := by decide +kernel
theorem dL_isLaidRight_293 : decode cL_isLaidRight 293 = .ok (.iload 9, 2) := by decide +kernel
theorem dL_isLaidRight_295 : decode cL_isLaidRight 295 = .ok (.invokevirtual 35, 3) := by decide +kernel
theorem dL_isLaidRight_298 : decode cL_isLaidRight 298 = .ok (.istore 10, 2) := by decide +kernel
theorem dL_isLaidRight_300 : decode cL_isLaidRight 300 = .ok (.iload 7, 2) := by decide +kernel
theorem dL_isLaidRight_302 : decode cL_isLaidRight 302 = .ok (.ifCond .eq 38, 3) := by decide +kernel
theorem dL_isLaidRight_305 : decode cL_isLaidRight 305 = .ok (.aload_n 0, 1) := by decide +kernel
theorem dL_isLaidRight_306 : decode cL_isLaidRight 306 = .ok (.iload 10, 2) := by decide +kernel
theorem dL_isLaidRight_308 : decode cL_isLaidRight 308 = .ok (.invokevirtual 8, 3) := by decide +kernel
theorem dL_isLaidRight_311 : decode cL_isLaidRight 311 = .ok (.iload 8, 2) := by decide +kernel
theorem dL_isLaidRight_313 : decode cL_isLaidRight 313 = .ok (.if_icmp .ne 27, 3) := by decide +kernel
theorem dL_isLaidRight_316 : decode cL_isLaidRight 316 = .ok (.iload 9, 2) := by decide +kernel
theorem dL_isLaidRight_318 : decode cL_isLaidRight 318 = .ok (.ifCond .eq 18, 3) := by decide +kernel
theorem dL_isLaidRight_321 : decode cL_isLaidRight 321 = .ok (.aload_n 0, 1) := by decide +kernel
theorem dL_isLaidRight_322 : decode cL_isLaidRight 322 = .ok (.iload 8, 2) := by decide +kernel
theorem dL_isLaidRight_324 : decode cL_isLaidRight 324 = .ok (.iload 9, 2) := by decide +kernel
theorem dL_isLaidRight_326 : decode cL_isLaidRight 326 = .ok (.iconst 1, 1) := by decide +kernel
theorem dL_isLaidRight_327 : decode cL_isLaidRight 327 = .ok (.isub, 1) := by decide +kernel
theorem dL_isLaidRight_328 : decode cL_isLaidRight 328 = .ok (.invokevirtual 35, 3) := by decide +kernel
theorem dL_isLaidRight_331 : decode cL_isLaidRight 331 = .ok (.iload 10, 2) := by decide +kernel
theorem dL_isLaidRight_333 : decode cL_isLaidRight 333 = .ok (.if_icmp .ge 7, 3) := by decide +kernel
theorem dL_isLaidRight_336 : decode cL_isLaidRight 336 = .ok (.iconst 1, 1) := by decide +kernel
theorem dL_isLaidRight_337 : decode cL_isLaidRight 337 = .ok (.goto 4, 3) := by decide +kernel
theorem dL_isLaidRight_340 : decode cL_isLaidRight 340 = .ok (.iconst 0, 1) := by decide +kernel
theorem dL_isLaidRight_341 : decode cL_isLaidRight 341 = .ok (.istore 7, 2) := by decide +kernel
theorem dL_isLaidRight_343 : decode cL_isLaidRight 343 = .ok (.iinc 9 1, 3) := by decide +kernel
theorem dL_isLaidRight_346 : decode cL_isLaidRight 346 = .ok (.goto (-67), 3) := by decide +kernel
theorem dL_isLaidRight_349 : decode cL_isLaidRight 349 = .ok (.iinc 8 1, 3) := by decide +kernel
theorem dL_isLaidRight_352 : decode cL_isLaidRight 352 = .ok (.goto (-82), 3) := by decide +kernel
theorem dL_isLaidRight_355 : decode cL_isLaidRight 355 = .ok (.aload_n 0, 1) := by decide +kernel
theorem dL_isLaidRight_356 : decode cL_isLaidRight 356 = .ok (.invokevirtual 19, 3) := by decide +kernel
theorem dL_isLaidRight_359 : decode cL_isLaidRight 359 = .ok (.ifCond .ge 7, 3) := by decide +kernel
theorem dL_isLaidRight_362 : decode cL_isLaidRight 362 = .ok (.iconst 1, 1) := by decide +kernel
theorem dL_isLaidRight_363 : decode cL_isLaidRight 363 = .ok (.goto 4, 3) := by decide +kernel
theorem dL_isLaidRight_366 : decode cL_isLaidRight 366 = .ok (.iconst 0, 1) := by decide +kernel
theorem dL_isLaidRight_367 : decode cL_isLaidRight 367 = .ok (.istore 8, 2) := by decide +kernel
theorem dL_isLaidRight_369 : decode cL_isLaidRight 369 = .ok (.aload_n 0, 1) := by decide +kernel
theorem dL_isLaidRight_370 : decode cL_isLaidRight 370 = .ok (.invokevirtual 39, 3) := by decide +kernel
theorem dL_isLaidRight_373 : decode cL_isLaidRight 373 = .ok (.istore 9, 2) := by decide +kernel
theorem dL_isLaidRight_375 : decode cL_isLaidRight 375 = .ok (.iload 7, 2) := by decide +kernel
theorem dL_isLaidRight_377 : decode cL_isLaidRight 377 = .ok (.ifCond .eq 78, 3) := by decide +kernel
theorem dL_isLaidRight_380 : decode cL_isLaidRight 380 = .ok (.iload 9, 2) := by decide +kernel
theorem dL_isLaidRight_382 : decode cL_isLaidRight 382 = .ok (.ifCond .ge 10, 3) := by decide +kernel
theorem dL_isLaidRight_385 : decode cL_isLaidRight 385 = .ok (.iload_n 2, 1) := by decide +kernel
theorem dL_isLaidRight_386 : decode cL_isLaidRight 386 = .ok (.ifCond .ne 69, 3) := by decide +kernel
theorem dL_isLaidRight_389 : decode cL_isLaidRight 389 = .ok (.goto 31, 3) := by decide +kernel
theorem dL_isLaidRight_392 : decode cL_isLaidRight 392 = .ok (.aload_n 0, 1) := by decide +kernel
theorem dL_isLaidRight_393 : decode cL_isLaidRight 393 = .ok (.iload 9, 2) := by decide +kernel
theorem dL_isLaidRight_395 : decode cL_isLaidRight 395 = .ok (.invokevirtual 23, 3) := by decide +kernel
theorem dL_isLaidRight_398 : decode cL_isLaidRight 398 = .ok (.aload_n 0, 1) := by decide +kernel
theorem dL_isLaidRight_399 : decode cL_isLaidRight 399 = .ok (.iconst 1, 1) := by decide +kernel
theorem dL_isLaidRight_400 : decode cL_isLaidRight 400 = .ok (.iload 9, 2) := by decide +kernel
theorem dL_isLaidRight_402 : decode cL_isLaidRight 402 = .ok (.isub, 1) := by decide +kernel
theorem dL_isLaidRight_403 : decode cL_isLaidRight 403 = .ok (.invokevirtual 23, 3) := by decide +kernel
theorem dL_isLaidRight_406 : decode cL_isLaidRight 406 = .ok (.iload 8, 2) := by decide +kernel
theorem dL_isLaidRight_408 : decode cL_isLaidRight 408 = .ok (.ifCond .eq 7, 3) := by decide +kernel
theorem dL_isLaidRight_411 : decode cL_isLaidRight 411 = .ok (.iconst 0, 1) := by decide +kernel
theorem dL_isLaidRight_412 : decode cL_isLaidRight 412 = .ok (.goto 4, 3) := by decide +kernel
theorem dL_isLaidRight_415 : decode cL_isLaidRight 415 = .ok (.iconst 1, 1) := by decide +kernel
theorem dL_isLaidRight_416 : decode cL_isLaidRight 416 = .ok (.iadd, 1) := by decide +kernel
theorem dL_isLaidRight_417 : decode cL_isLaidRight 417 = .ok (.if_icmp .ne 38, 3) := by decide +kernel
theorem dL_isLaidRight_420 : decode cL_isLaidRight 420 = .ok (.aload_n 0, 1) := by decide +kernel
theorem dL_isLaidRight_421 : decode cL_isLaidRight 421 = .ok (.invokevirtual 26, 3) := by decide +kernel
theorem dL_isLaidRight_424 : decode cL_isLaidRight 424 = .ok (.ifCond .eq 18, 3) := by decide +kernel
theorem dL_isLaidRight_427 : decode cL_isLaidRight 427 = .ok (.aload_n 0, 1) := by decide +kernel
theorem dL_isLaidRight_428 : decode cL_isLaidRight 428 = .ok (.iconst 1, 1) := by decide +kernel
theorem dL_isLaidRight_429 : decode cL_isLaidRight 429 = .ok (.invokevirtual 23, 3) := by decide +kernel
theorem dL_isLaidRight_432 : decode cL_isLaidRight 432 = .ok (.bipush 6, 2) := by decide +kernel
theorem dL_isLaidRight_434 : decode cL_isLaidRight 434 = .ok (.if_icmp .eq 8, 3) := by decide +kernel
theorem dL_isLaidRight_437 : decode cL_isLaidRight 437 = .ok (.iload 8, 2) := by decide +kernel
theorem dL_isLaidRight_439 : decode cL_isLaidRight 439 = .ok (.ifCond .ne 16, 3) := by decide +kernel
theorem dL_isLaidRight_442 : decode cL_isLaidRight 442 = .ok (.aload_n 0, 1) := by decide +kernel
theorem dL_isLaidRight_443 : decode cL_isLaidRight 443 = .ok (.invokevirtual 26, 3) := by decide +kernel
theorem dL_isLaidRight_446 : decode cL_isLaidRight 446 = .ok (.iconst 2, 1) := by decide +kernel
theorem dL_isLaidRight_447 : decode cL_isLaidRight 447 = .ok (.irem, 1) := by decide +kernel
theorem dL_isLaidRight_448 : decode cL_isLaidRight 448 = .ok (.ifCond .ne 7, 3) := by decide +kernel
theorem dL_isLaidRight_451 : decode cL_isLaidRight 451 = .ok (.iconst 1, 1) := by decide +kernel
theorem dL_isLaidRight_452 : decode cL_isLaidRight 452 = .ok (.goto 4, 3) := by decide +kernel
theorem dL_isLaidRight_455 : decode cL_isLaidRight 455 = .ok (.iconst 0, 1) := by decide +kernel
theorem dL_isLaidRight_456 : decode cL_isLaidRight 456 = .ok (.ireturn, 1) := by decide +kernel
set_option maxRecDepth 20000 in
theorem ggL_isFree_X2_turn : GoodIn wsL_isFree wsX2_turn := goodIn_r _ [5, 6, 83, 84, 85, 86, 87, 88, 89, 90, 91, 92, 93] (by decide +kernel) (by decide +kernel)
set_option maxRecDepth 20000 in
theorem gL_isFree_X2_turn : GoodIn wsL_isFree (wsV RL 39 RX2 yX2_turn wsX2_turn) := goodIn_app (goodIn_of _ (by decide +kernel)) ggL_isFree_X2_turn
set_option maxRecDepth 20000 in
theorem ggL_isFree_X2_cards : GoodIn wsL_isFree wsX2_cards := goodIn_ca (goodIn_r _ [10, 11, 12, 13, 14, 15, 4, 16, 17, 18, 19, 20, 21, 22, 23, 24, 25, 26, 27, 28, 29, 94, 95, 96, 97, 98, 83, 84, 85, 86, 87, 88, 89, 90, 91, 92, 93] (by decide +kernel) (by decide +kernel)) (goodIn_sub (fun _ h => List.mem_cons_of_mem _ (List.mem_append_left _ (List.mem_append_right _ h))) (by decide +kernel))
set_option maxRecDepth 20000 in
theorem gL_isFree_X2_cards : GoodIn wsL_isFree (wsV RL 23 RX2 yX2_cards wsX2_cards) := goodIn_app (goodIn_of _ (by decide +kernel)) ggL_isFree_X2_cards
set_option maxRecDepth 20000 in
theorem ggL_isFree_X2_cardAt : GoodIn wsL_isFree wsX2_cardAt := goodIn_ca (goodIn_r _ [33, 11, 12, 13, 14, 15, 4, 16, 17, 18, 19, 20, 21, 22, 34, 35, 36, 94, 95, 96, 97, 98, 83, 84, 85, 86, 87, 88, 89, 90, 91, 92, 93] (by decide +kernel) (by decide +kernel)) (goodIn_sub (fun _ h => List.mem_cons_of_mem _ (List.mem_append_left _ (List.mem_append_right _ h))) (by decide +kernel))
set_option maxRecDepth 20000 in
theorem gL_isFree_X2_cardAt : GoodIn wsL_isFree (wsV RL 35 RX2 yX2_cardAt wsX2_cardAt) := goodIn_app (goodIn_of _ (by decide +kernel)) ggL_isFree_X2_cardAt
set_option maxRecDepth 20000 in
theorem ggL_isFree_X2_whyNot : GoodIn wsL_isFree wsX2_whyNot := goodIn_ca (goodIn_r _ [40, 41, 42, 43, 44, 4, 45, 46, 47, 48, 49, 6, 50, 51, 52, 53, 54, 55, 56, 13, 17, 18, 19, 20, 21, 22, 34, 35, 36, 57, 58, 59, 60, 61, 62, 63, 64, 65, 66, 67, 68, 69, 70, 83, 84, 85, 86, 87, 88, 89, 90, 91, 92, 93, 94, 95, 96, 97, 98] (by decide +kernel) (by decide +kernel)) (goodIn_sub (fun _ h => List.mem_cons_of_mem _ (List.mem_append_right _ h)) (by decide +kernel))
set_option maxRecDepth 20000 in
theorem gL_isFree_X2_whyNot : GoodIn wsL_isFree (wsV RL 42 RX2 yX2_whyNot wsX2_whyNot) := goodIn_app (goodIn_of _ (by decide +kernel)) ggL_isFree_X2_whyNot
set_option maxRecDepth 20000 in
theorem ggL_isFree_X2_pile : GoodIn wsL_isFree wsX2_pile := goodIn_r _ [74, 51, 83, 84, 85, 86, 87, 88, 89, 90, 91, 92, 93] (by decide +kernel) (by decide +kernel)
set_option maxRecDepth 20000 in
theorem gL_isFree_X2_pile : GoodIn wsL_isFree (wsV RL 26 RX2 yX2_pile wsX2_pile) := goodIn_app (goodIn_of _ (by decide +kernel)) ggL_isFree_X2_pile
set_option maxRecDepth 20000 in
theorem ggL_isFree_X2_led : GoodIn wsL_isFree wsX2_led := goodIn_r _ [78, 50, 83, 84, 85, 86, 87, 88, 89, 90, 91, 92, 93] (by decide +kernel) (by decide +kernel)
set_option maxRecDepth 20000 in
theorem gL_isFree_X2_led : GoodIn wsL_isFree (wsV RL 19 RX2 yX2_led wsX2_led) := goodIn_app (goodIn_of _ (by decide +kernel)) ggL_isFree_X2_led
set_option maxRecDepth 20000 in
theorem ggL_isFree_X2_choices : GoodIn wsL_isFree wsX2_choices := goodIn_r _ [82, 46, 47, 48, 4, 49, 6, 50, 51, 52, 53, 54, 55, 56, 13, 17, 18, 19, 20, 21, 22, 34, 35, 36, 57, 58, 59, 60, 61, 62, 63, 64, 65, 66, 67, 68, 69, 70, 83, 84, 85, 86, 87, 88, 89, 90, 91, 92, 93, 94, 95, 96, 97, 98] (by decide +kernel) (by decide +kernel)
set_option maxRecDepth 20000 in
theorem gL_isFree_X2_choices : GoodIn wsL_isFree (wsV RL 45 RX2 yX2_choices wsX2_choices) := goodIn_app (goodIn_of _ (by decide +kernel)) ggL_isFree_X2_choices
theorem dL_isFree_0 : decode cL_isFree 0 = .ok (.aload_n 0, 1) := by decide +kernel
theorem dL_isFree_1 : decode cL_isFree 1 = .ok (.invokevirtual 39, 3) := by decide +kernel
theorem dL_isFree_4 : decode cL_isFree 4 = .ok (.istore_n 1, 1) := by decide +kernel
theorem dL_isFree_5 : decode cL_isFree 5 = .ok (.iconst 0, 1) := by decide +kernel
theorem dL_isFree_6 : decode cL_isFree 6 = .ok (.istore_n 2, 1) := by decide +kernel
theorem dL_isFree_7 : decode cL_isFree 7 = .ok (.iconst 0, 1) := by decide +kernel
theorem dL_isFree_8 : decode cL_isFree 8 = .ok (.istore_n 3, 1) := by decide +kernel
theorem dL_isFree_9 : decode cL_isFree 9 = .ok (.iconst 0, 1) := by decide +kernel
theorem dL_isFree_10 : decode cL_isFree 10 = .ok (.istore 4, 2) := by decide +kernel
theorem dL_isFree_12 : decode cL_isFree 12 = .ok (.iload 4, 2) := by decide +kernel
theorem dL_isFree_14 : decode cL_isFree 14 = .ok (.aload_n 0, 1) := by decide +kernel
theorem dL_isFree_15 : decode cL_isFree 15 = .ok (.iload_n 1, 1) := by decide +kernel
theorem dL_isFree_16 : decode cL_isFree 16 = .ok (.invokevirtual 23, 3) := by decide +kernel
theorem dL_isFree_19 : decode cL_isFree 19 = .ok (.if_icmp .ge 113, 3) := by decide +kernel
theorem dL_isFree_22 : decode cL_isFree 22 = .ok (.aload_n 0, 1) := by decide +kernel
theorem dL_isFree_23 : decode cL_isFree 23 = .ok (.iload_n 1, 1) := by decide +kernel
theorem dL_isFree_24 : decode cL_isFree 24 = .ok (.iload 4, 2) := by decide +kernel
theorem dL_isFree_26 : decode cL_isFree 26 = .ok (.invokevirtual 35, 3) := by decide +kernel
theorem dL_isFree_29 : decode cL_isFree 29 = .ok (.istore 5, 2) := by decide +kernel
theorem dL_isFree_31 : decode cL_isFree 31 = .ok (.aload_n 0, 1) := by decide +kernel
theorem dL_isFree_32 : decode cL_isFree 32 = .ok (.iload 5, 2) := by decide +kernel
theorem dL_isFree_34 : decode cL_isFree 34 = .ok (.invokevirtual 42, 3) := by decide +kernel
theorem dL_isFree_37 : decode cL_isFree 37 = .ok (.istore 6, 2) := by decide +kernel
theorem dL_isFree_39 : decode cL_isFree 39 = .ok (.iload_n 3, 1) := by decide +kernel
theorem dL_isFree_40 : decode cL_isFree 40 = .ok (.iload 5, 2) := by decide +kernel
theorem dL_isFree_42 : decode cL_isFree 42 = .ok (.bipush 39, 2) := by decide +kernel
theorem dL_isFree_44 : decode cL_isFree 44 = .ok (.if_icmp .le 7, 3) := by decide +kernel
theorem dL_isFree_47 : decode cL_isFree 47 = .ok (.iconst 1, 1) := by decide +kernel
theorem dL_isFree_48 : decode cL_isFree 48 = .ok (.goto 4, 3) := by decide +kernel
theorem dL_isFree_51 : decode cL_isFree 51 = .ok (.iconst 0, 1) := by decide +kernel
theorem dL_isFree_52 : decode cL_isFree 52 = .ok (.iadd, 1) := by decide +kernel
theorem dL_isFree_53 : decode cL_isFree 53 = .ok (.istore_n 3, 1) := by decide +kernel
theorem dL_isFree_54 : decode cL_isFree 54 = .ok (.iload_n 2, 1) := by decide +kernel
theorem dL_isFree_55 : decode cL_isFree 55 = .ok (.iload 6, 2) := by decide +kernel
theorem dL_isFree_57 : decode cL_isFree 57 = .ok (.ifCond .ne 7, 3) := by decide +kernel
theorem dL_isFree_60 : decode cL_isFree 60 = .ok (.iconst 1, 1) := by decide +kernel
theorem dL_isFree_61 : decode cL_isFree 61 = .ok (.goto 4, 3) := by decide +kernel
theorem dL_isFree_64 : decode cL_isFree 64 = .ok (.iconst 0, 1) := by decide +kernel
theorem dL_isFree_65 : decode cL_isFree 65 = .ok (.iadd, 1) := by decide +kernel
theorem dL_isFree_66 : decode cL_isFree 66 = .ok (.istore_n 2, 1) := by decide +kernel
theorem dL_isFree_67 : decode cL_isFree 67 = .ok (.iload 6, 2) := by decide +kernel
theorem dL_isFree_69 : decode cL_isFree 69 = .ok (.iconst 4, 1) := by decide +kernel
theorem dL_isFree_70 : decode cL_isFree 70 = .ok (.if_icmp .eq 9, 3) := by decide +kernel
theorem dL_isFree_73 : decode cL_isFree 73 = .ok (.iload 6, 2) := by decide +kernel
theorem dL_isFree_75 : decode cL_isFree 75 = .ok (.iconst 5, 1) := by decide +kernel
theorem dL_isFree_76 : decode cL_isFree 76 = .ok (.if_icmp .ne 28, 3) := by decide +kernel
theorem dL_isFree_79 : decode cL_isFree 79 = .ok (.aload_n 0, 1) := by decide +kernel
theorem dL_isFree_80 : decode cL_isFree 80 = .ok (.invokevirtual 26, 3) := by decide +kernel
theorem dL_isFree_83 : decode cL_isFree 83 = .ok (.ifCond .gt 19, 3) := by decide +kernel
theorem dL_isFree_86 : decode cL_isFree 86 = .ok (.aload_n 0, 1) := by decide +kernel
theorem dL_isFree_87 : decode cL_isFree 87 = .ok (.invokevirtual 19, 3) := by decide +kernel
theorem dL_isFree_90 : decode cL_isFree 90 = .ok (.ifCond .lt 12, 3) := by decide +kernel
theorem dL_isFree_93 : decode cL_isFree 93 = .ok (.aload_n 0, 1) := by decide +kernel
theorem dL_isFree_94 : decode cL_isFree 94 = .ok (.invokevirtual 19, 3) := by decide +kernel
theorem dL_isFree_97 : decode cL_isFree 97 = .ok (.bipush 39, 2) := by decide +kernel
theorem dL_isFree_99 : decode cL_isFree 99 = .ok (.if_icmp .le 5, 3) := by decide +kernel
theorem dL_isFree_102 : decode cL_isFree 102 = .ok (.iconst 0, 1) := by decide +kernel
theorem dL_isFree_103 : decode cL_isFree 103 = .ok (.ireturn, 1) := by decide +kernel
theorem dL_isFree_104 : decode cL_isFree 104 = .ok (.iload 6, 2) := by decide +kernel
theorem dL_isFree_106 : decode cL_isFree 106 = .ok (.iconst 3, 1) := by decide +kernel
theorem dL_isFree_107 : decode cL_isFree 107 = .ok (.if_icmp .ne 19, 3) := by decide +kernel
theorem dL_isFree_110 : decode cL_isFree 110 = .ok (.iload 5, 2) := by decide +kernel
theorem dL_isFree_112 : decode cL_isFree 112 = .ok (.bipush 40, 2) := by decide +kernel
theorem dL_isFree_114 : decode cL_isFree 114 = .ok (.if_icmp .lt 10, 3) := by decide +kernel
theorem dL_isFree_117 : decode cL_isFree 117 = .ok (.aload_n 0, 1) := by decide +kernel
theorem dL_isFree_118 : decode cL_isFree 118 = .ok (.invokevirtual 19, 3) := by decide +kernel
theorem dL_isFree_121 : decode cL_isFree 121 = .ok (.ifCond .lt 5, 3) := by decide +kernel
theorem dL_isFree_124 : decode cL_isFree 124 = .ok (.iconst 0, 1) := by decide +kernel
theorem dL_isFree_125 : decode cL_isFree 125 = .ok (.ireturn, 1) := by decide +kernel
theorem dL_isFree_126 : decode cL_isFree 126 = .ok (.iinc 4 1, 3) := by decide +kernel
theorem dL_isFree_129 : decode cL_isFree 129 = .ok (.goto (-117), 3) := by decide +kernel
theorem dL_isFree_132 : decode cL_isFree 132 = .ok (.aload_n 0, 1) := by decide +kernel
theorem dL_isFree_133 : decode cL_isFree 133 = .ok (.invokevirtual 19, 3) := by decide +kernel
theorem dL_isFree_136 : decode cL_isFree 136 = .ok (.ifCond .ge 7, 3) := by decide +kernel
theorem dL_isFree_139 : decode cL_isFree 139 = .ok (.iconst 1, 1) := by decide +kernel
theorem dL_isFree_140 : decode cL_isFree 140 = .ok (.goto 4, 3) := by decide +kernel
theorem dL_isFree_143 : decode cL_isFree 143 = .ok (.iconst 0, 1) := by decide +kernel
theorem dL_isFree_144 : decode cL_isFree 144 = .ok (.istore 4, 2) := by decide +kernel
theorem dL_isFree_146 : decode cL_isFree 146 = .ok (.aload_n 0, 1) := by decide +kernel
theorem dL_isFree_147 : decode cL_isFree 147 = .ok (.iload_n 1, 1) := by decide +kernel
theorem dL_isFree_148 : decode cL_isFree 148 = .ok (.invokevirtual 23, 3) := by decide +kernel
theorem dL_isFree_151 : decode cL_isFree 151 = .ok (.istore 5, 2) := by decide +kernel
theorem dL_isFree_153 : decode cL_isFree 153 = .ok (.iload_n 2, 1) := by decide +kernel
theorem dL_isFree_154 : decode cL_isFree 154 = .ok (.aload_n 0, 1) := by decide +kernel
theorem dL_isFree_155 : decode cL_isFree 155 = .ok (.invokevirtual 45, 3) := by decide +kernel
theorem dL_isFree_158 : decode cL_isFree 158 = .ok (.if_icmp .ne 53, 3) := by decide +kernel
theorem dL_isFree_161 : decode cL_isFree 161 = .ok (.iload_n 2, 1) := by decide +kernel
theorem dL_isFree_162 : decode cL_isFree 162 = .ok (.ifCond .le 49, 3) := by decide +kernel
theorem dL_isFree_165 : decode cL_isFree 165 = .ok (.aload_n 0, 1) := by decide +kernel
theorem dL_isFree_166 : decode cL_isFree 166 = .ok (.invokevirtual 26, 3) := by decide +kernel
theorem dL_isFree_169 : decode cL_isFree 169 = .ok (.ifCond .eq 14, 3) := by decide +kernel
theorem dL_isFree_172 : decode cL_isFree 172 = .ok (.iload 4, 2) := by decide +kernel
theorem dL_isFree_174 : decode cL_isFree 174 = .ok (.ifCond .ne 9, 3) := by decide +kernel
theorem dL_isFree_177 : decode cL_isFree 177 = .ok (.iload_n 2, 1) := by decide +kernel
theorem dL_isFree_178 : decode cL_isFree 178 = .ok (.iload 5, 2) := by decide +kernel
theorem dL_isFree_180 : decode cL_isFree 180 = .ok (.if_icmp .ne 31, 3) := by decide +kernel
theorem dL_isFree_183 : decode cL_isFree 183 = .ok (.iload 4, 2) := by decide +kernel
theorem dL_isFree_185 : decode cL_isFree 185 = .ok (.ifCond .eq 22, 3) := by decide +kernel
theorem dL_isFree_188 : decode cL_isFree 188 = .ok (.iload_n 2, 1) := by decide +kernel
theorem dL_isFree_189 : decode cL_isFree 189 = .ok (.iload_n 3, 1) := by decide +kernel
theorem dL_isFree_190 : decode cL_isFree 190 = .ok (.iload 5, 2) := by decide +kernel
theorem dL_isFree_192 : decode cL_isFree 192 = .ok (.if_icmp .ne 8, 3) := by decide +kernel
theorem dL_isFree_195 : decode cL_isFree 195 = .ok (.iload 5, 2) := by decide +kernel
theorem dL_isFree_197 : decode cL_isFree 197 = .ok (.goto 7, 3) := by decide +kernel
theorem dL_isFree_200 : decode cL_isFree 200 = .ok (.iload 5, 2) := by decide +kernel
theorem dL_isFree_202 : decode cL_isFree 202 = .ok (.iload_n 3, 1) := by decide +kernel
theorem dL_isFree_203 : decode cL_isFree 203 = .ok (.isub, 1) := by decide +kernel
theorem dL_isFree_204 : decode cL_isFree 204 = .ok (.if_icmp .ne 7, 3) := by decide +kernel
theorem dL_isFree_207 : decode cL_isFree 207 = .ok (.iconst 1, 1) := by decide +kernel
theorem dL_isFree_208 : decode cL_isFree 208 = .ok (.goto 4, 3) := by decide +kernel
theorem dL_isFree_211 : decode cL_isFree 211 = .ok (.iconst 0, 1) := by decide +kernel
theorem dL_isFree_212 : decode cL_isFree 212 = .ok (.ireturn, 1) := by decide +kernel
