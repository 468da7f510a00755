theorem dX0_init_0 : decode cX0_init 0 = .ok (.aload_n 0, 1) := by decide +kernel
theorem dX0_init_1 : decode cX0_init 1 = .ok (.invokespecial 3, 3) := by decide +kernel
theorem dX0_init_4 : decode cX0_init 4 = .ok (.aload_n 0, 1) := by decide +kernel
theorem dX0_init_5 : decode cX0_init 5 = .ok (.lconst 0, 1) := by decide +kernel
theorem dX0_init_6 : decode cX0_init 6 = .ok (.putfield 9, 3) := by decide +kernel
theorem dX0_init_9 : decode cX0_init 9 = .ok (.aload_n 0, 1) := by decide +kernel
theorem dX0_init_10 : decode cX0_init 10 = .ok (.lconst 0, 1) := by decide +kernel
theorem dX0_init_11 : decode cX0_init 11 = .ok (.putfield 15, 3) := by decide +kernel
theorem dX0_init_14 : decode cX0_init 14 = .ok (.aload_n 0, 1) := by decide +kernel
theorem dX0_init_15 : decode cX0_init 15 = .ok (.iconst 0, 1) := by decide +kernel
theorem dX0_init_16 : decode cX0_init 16 = .ok (.putfield 18, 3) := by decide +kernel
theorem dX0_init_19 : decode cX0_init 19 = .ok (.aload_n 0, 1) := by decide +kernel
theorem dX0_init_20 : decode cX0_init 20 = .ok (.iconst 0, 1) := by decide +kernel
theorem dX0_init_21 : decode cX0_init 21 = .ok (.putfield 22, 3) := by decide +kernel
theorem dX0_init_24 : decode cX0_init 24 = .ok (.aload_n 0, 1) := by decide +kernel
theorem dX0_init_25 : decode cX0_init 25 = .ok (.iconst 0, 1) := by decide +kernel
theorem dX0_init_26 : decode cX0_init 26 = .ok (.putfield 25, 3) := by decide +kernel
theorem dX0_init_29 : decode cX0_init 29 = .ok (.return_, 1) := by decide +kernel
theorem dX0_begin_0 : decode cX0_begin 0 = .ok (.aload_n 0, 1) := by decide +kernel
theorem dX0_begin_1 : decode cX0_begin 1 = .ok (.lload_n 1, 1) := by decide +kernel
theorem dX0_begin_2 : decode cX0_begin 2 = .ok (.putfield 9, 3) := by decide +kernel
theorem dX0_begin_5 : decode cX0_begin 5 = .ok (.aload_n 0, 1) := by decide +kernel
theorem dX0_begin_6 : decode cX0_begin 6 = .ok (.lconst 0, 1) := by decide +kernel
theorem dX0_begin_7 : decode cX0_begin 7 = .ok (.putfield 15, 3) := by decide +kernel
theorem dX0_begin_10 : decode cX0_begin 10 = .ok (.aload_n 0, 1) := by decide +kernel
theorem dX0_begin_11 : decode cX0_begin 11 = .ok (.iconst 0, 1) := by decide +kernel
theorem dX0_begin_12 : decode cX0_begin 12 = .ok (.putfield 18, 3) := by decide +kernel
theorem dX0_begin_15 : decode cX0_begin 15 = .ok (.aload_n 0, 1) := by decide +kernel
theorem dX0_begin_16 : decode cX0_begin 16 = .ok (.iconst 0, 1) := by decide +kernel
theorem dX0_begin_17 : decode cX0_begin 17 = .ok (.putfield 22, 3) := by decide +kernel
theorem dX0_begin_20 : decode cX0_begin 20 = .ok (.aload_n 0, 1) := by decide +kernel
theorem dX0_begin_21 : decode cX0_begin 21 = .ok (.iconst 0, 1) := by decide +kernel
theorem dX0_begin_22 : decode cX0_begin 22 = .ok (.putfield 25, 3) := by decide +kernel
theorem dX0_begin_25 : decode cX0_begin 25 = .ok (.return_, 1) := by decide +kernel
theorem dX0_loseWornGloves_0 : decode cX0_loseWornGloves 0 = .ok (.aload_n 0, 1) := by decide +kernel
theorem dX0_loseWornGloves_1 : decode cX0_loseWornGloves 1 = .ok (.getfield 25, 3) := by decide +kernel
theorem dX0_loseWornGloves_4 : decode cX0_loseWornGloves 4 = .ok (.iconst 1, 1) := by decide +kernel
theorem dX0_loseWornGloves_5 : decode cX0_loseWornGloves 5 = .ok (.if_icmp .ne 8, 3) := by decide +kernel
theorem dX0_loseWornGloves_8 : decode cX0_loseWornGloves 8 = .ok (.aload_n 0, 1) := by decide +kernel
theorem dX0_loseWornGloves_9 : decode cX0_loseWornGloves 9 = .ok (.iconst 2, 1) := by decide +kernel
theorem dX0_loseWornGloves_10 : decode cX0_loseWornGloves 10 = .ok (.putfield 25, 3) := by decide +kernel
theorem dX0_loseWornGloves_13 : decode cX0_loseWornGloves 13 = .ok (.return_, 1) := by decide +kernel
set_option maxRecDepth 20000 in
theorem ggX2_init_X0_init : GoodIn wsX2_init wsX0_init := goodIn_r _ [20, 21, 2, 3, 22, 23, 24, 25, 26, 38, 39, 40, 41, 42] (by decide +kernel) (by decide +kernel)
set_option maxRecDepth 20000 in
theorem gX2_init_X0_init_n15 : GoodIn wsX2_init (wsX0_init) := ggX2_init_X0_init
theorem dX2_init_0 : decode cX2_init 0 = .ok (.aload_n 0, 1) := by decide +kernel
theorem dX2_init_1 : decode cX2_init 1 = .ok (.invokespecial 3, 3) := by decide +kernel
theorem dX2_init_4 : decode cX2_init 4 = .ok (.aload_n 0, 1) := by decide +kernel
theorem dX2_init_5 : decode cX2_init 5 = .ok (.bipush 42, 2) := by decide +kernel
theorem dX2_init_7 : decode cX2_init 7 = .ok (.newarray .int, 2) := by decide +kernel
theorem dX2_init_9 : decode cX2_init 9 = .ok (.putfield 9, 3) := by decide +kernel
theorem dX2_init_12 : decode cX2_init 12 = .ok (.aload_n 0, 1) := by decide +kernel
theorem dX2_init_13 : decode cX2_init 13 = .ok (.new 13, 3) := by decide +kernel
theorem dX2_init_16 : decode cX2_init 16 = .ok (.dup, 1) := by decide +kernel
theorem dX2_init_17 : decode cX2_init 17 = .ok (.invokespecial 15, 3) := by decide +kernel
theorem dX2_init_20 : decode cX2_init 20 = .ok (.putfield 16, 3) := by decide +kernel
theorem dX2_init_23 : decode cX2_init 23 = .ok (.aload_n 0, 1) := by decide +kernel
theorem dX2_init_24 : decode cX2_init 24 = .ok (.new 13, 3) := by decide +kernel
theorem dX2_init_27 : decode cX2_init 27 = .ok (.dup, 1) := by decide +kernel
theorem dX2_init_28 : decode cX2_init 28 = .ok (.invokespecial 15, 3) := by decide +kernel
theorem dX2_init_31 : decode cX2_init 31 = .ok (.putfield 20, 3) := by decide +kernel
theorem dX2_init_34 : decode cX2_init 34 = .ok (.aload_n 0, 1) := by decide +kernel
theorem dX2_init_35 : decode cX2_init 35 = .ok (.bipush 42, 2) := by decide +kernel
theorem dX2_init_37 : decode cX2_init 37 = .ok (.putfield 23, 3) := by decide +kernel
theorem dX2_init_40 : decode cX2_init 40 = .ok (.aload_n 0, 1) := by decide +kernel
theorem dX2_init_41 : decode cX2_init 41 = .ok (.iconst (-1), 1) := by decide +kernel
theorem dX2_init_42 : decode cX2_init 42 = .ok (.putfield 27, 3) := by decide +kernel
theorem dX2_init_45 : decode cX2_init 45 = .ok (.aload_n 0, 1) := by decide +kernel
theorem dX2_init_46 : decode cX2_init 46 = .ok (.iconst (-1), 1) := by decide +kernel
theorem dX2_init_47 : decode cX2_init 47 = .ok (.putfield 30, 3) := by decide +kernel
theorem dX2_init_50 : decode cX2_init 50 = .ok (.aload_n 0, 1) := by decide +kernel
theorem dX2_init_51 : decode cX2_init 51 = .ok (.iconst (-1), 1) := by decide +kernel
theorem dX2_init_52 : decode cX2_init 52 = .ok (.putfield 33, 3) := by decide +kernel
theorem dX2_init_55 : decode cX2_init 55 = .ok (.aload_n 0, 1) := by decide +kernel
theorem dX2_init_56 : decode cX2_init 56 = .ok (.iconst 0, 1) := by decide +kernel
theorem dX2_init_57 : decode cX2_init 57 = .ok (.putfield 36, 3) := by decide +kernel
theorem dX2_init_60 : decode cX2_init 60 = .ok (.aload_n 0, 1) := by decide +kernel
theorem dX2_init_61 : decode cX2_init 61 = .ok (.iconst 0, 1) := by decide +kernel
theorem dX2_init_62 : decode cX2_init 62 = .ok (.putfield 39, 3) := by decide +kernel
theorem dX2_init_65 : decode cX2_init 65 = .ok (.aload_n 0, 1) := by decide +kernel
theorem dX2_init_66 : decode cX2_init 66 = .ok (.aconst_null, 1) := by decide +kernel
theorem dX2_init_67 : decode cX2_init 67 = .ok (.putfield 42, 3) := by decide +kernel
theorem dX2_init_70 : decode cX2_init 70 = .ok (.aload_n 0, 1) := by decide +kernel
theorem dX2_init_71 : decode cX2_init 71 = .ok (.iconst 0, 1) := by decide +kernel
theorem dX2_init_72 : decode cX2_init 72 = .ok (.putfield 46, 3) := by decide +kernel
theorem dX2_init_75 : decode cX2_init 75 = .ok (.return_, 1) := by decide +kernel
set_option maxRecDepth 20000 in
theorem ggX2_deal_X2_shuffle : GoodIn wsX2_deal wsX2_shuffle := goodIn_r _ [13, 1, 14, 15, 16, 17, 18, 12, 19, 48, 49, 50, 51, 52, 53, 54, 55, 56, 57, 58] (by decide +kernel) (by decide +kernel)
set_option maxRecDepth 20000 in
theorem gX2_deal_X2_shuffle : GoodIn wsX2_deal (wsV RX2 50 RX2 yX2_shuffle wsX2_shuffle) := goodIn_app (goodIn_of _ (by decide +kernel)) ggX2_deal_X2_shuffle
set_option maxRecDepth 20000 in
theorem ggX2_deal_X2_putTurnedUpLast : GoodIn wsX2_deal wsX2_putTurnedUpLast := goodIn_r _ [23, 1, 24, 25, 26, 27, 48, 49, 50, 51, 52, 53, 54, 55, 56, 57, 58] (by decide +kernel) (by decide +kernel)
set_option maxRecDepth 20000 in
theorem gX2_deal_X2_putTurnedUpLast : GoodIn wsX2_deal (wsV RX2 54 RX2 yX2_putTurnedUpLast wsX2_putTurnedUpLast) := goodIn_app (goodIn_of _ (by decide +kernel)) ggX2_deal_X2_putTurnedUpLast
set_option maxRecDepth 20000 in
theorem ggX2_deal_X2_handFrom : GoodIn wsX2_deal wsX2_handFrom := goodIn_r _ [31, 1, 32, 33, 12, 34, 48, 49, 50, 51, 52, 53, 54, 55, 56, 57, 58] (by decide +kernel) (by decide +kernel)
set_option maxRecDepth 20000 in
theorem gX2_deal_X2_handFrom : GoodIn wsX2_deal (wsV RX2 57 RX2 yX2_handFrom wsX2_handFrom) := goodIn_app (goodIn_of _ (by decide +kernel)) ggX2_deal_X2_handFrom
set_option maxRecDepth 20000 in
theorem ggX2_deal_X0_begin : GoodIn wsX2_deal wsX0_begin := goodIn_r _ [39, 40, 41, 42, 43, 44, 59, 60, 61, 62, 63] (by decide +kernel) (by decide +kernel)
set_option maxRecDepth 20000 in
theorem gX2_deal_X0_begin : GoodIn wsX2_deal (wsV RX2 61 RX0 yX0_begin wsX0_begin) := goodIn_app (goodIn_of _ (by decide +kernel)) ggX2_deal_X0_begin
set_option maxRecDepth 20000 in
theorem ggX2_deal_X2_isMildew : GoodIn wsX2_deal wsX2_isMildew := goodIn_r _ [47] (by decide +kernel) (by decide +kernel)
set_option maxRecDepth 20000 in
theorem gX2_deal_X2_isMildew : GoodIn wsX2_deal (va_wsS RX2 64 yX2_isMildew wsX2_isMildew) := goodIn_app (goodIn_of _ (by decide +kernel)) ggX2_deal_X2_isMildew
theorem dX2_deal_0 : decode cX2_deal 0 = .ok (.aload_n 0, 1) := by decide +kernel
theorem dX2_deal_1 : decode cX2_deal 1 = .ok (.lload_n 1, 1) := by decide +kernel
theorem dX2_deal_2 : decode cX2_deal 2 = .ok (.invokevirtual 50, 3) := by decide +kernel
theorem dX2_deal_5 : decode cX2_deal 5 = .ok (.aload_n 0, 1) := by decide +kernel
theorem dX2_deal_6 : decode cX2_deal 6 = .ok (.getfield 9, 3) := by decide +kernel
theorem dX2_deal_9 : decode cX2_deal 9 = .ok (.bipush 12, 2) := by decide +kernel
theorem dX2_deal_11 : decode cX2_deal 11 = .ok (.iaload, 1) := by decide +kernel
theorem dX2_deal_12 : decode cX2_deal 12 = .ok (.istore_n 3, 1) := by decide +kernel
theorem dX2_deal_13 : decode cX2_deal 13 = .ok (.aload_n 0, 1) := by decide +kernel
theorem dX2_deal_14 : decode cX2_deal 14 = .ok (.invokevirtual 54, 3) := by decide +kernel
theorem dX2_deal_17 : decode cX2_deal 17 = .ok (.aload_n 0, 1) := by decide +kernel
theorem dX2_deal_18 : decode cX2_deal 18 = .ok (.getfield 16, 3) := by decide +kernel
theorem dX2_deal_21 : decode cX2_deal 21 = .ok (.aload_n 0, 1) := by decide +kernel
theorem dX2_deal_22 : decode cX2_deal 22 = .ok (.iconst 0, 1) := by decide +kernel
theorem dX2_deal_23 : decode cX2_deal 23 = .ok (.invokevirtual 57, 3) := by decide +kernel
theorem dX2_deal_26 : decode cX2_deal 26 = .ok (.invokevirtual 61, 3) := by decide +kernel
theorem dX2_deal_29 : decode cX2_deal 29 = .ok (.aload_n 0, 1) := by decide +kernel
theorem dX2_deal_30 : decode cX2_deal 30 = .ok (.getfield 20, 3) := by decide +kernel
theorem dX2_deal_33 : decode cX2_deal 33 = .ok (.aload_n 0, 1) := by decide +kernel
theorem dX2_deal_34 : decode cX2_deal 34 = .ok (.bipush 6, 2) := by decide +kernel
theorem dX2_deal_36 : decode cX2_deal 36 = .ok (.invokevirtual 57, 3) := by decide +kernel
theorem dX2_deal_39 : decode cX2_deal 39 = .ok (.invokevirtual 61, 3) := by decide +kernel
theorem dX2_deal_42 : decode cX2_deal 42 = .ok (.aload_n 0, 1) := by decide +kernel
theorem dX2_deal_43 : decode cX2_deal 43 = .ok (.bipush 12, 2) := by decide +kernel
theorem dX2_deal_45 : decode cX2_deal 45 = .ok (.putfield 23, 3) := by decide +kernel
theorem dX2_deal_48 : decode cX2_deal 48 = .ok (.aload_n 0, 1) := by decide +kernel
theorem dX2_deal_49 : decode cX2_deal 49 = .ok (.iload_n 3, 1) := by decide +kernel
theorem dX2_deal_50 : decode cX2_deal 50 = .ok (.invokestatic 64, 3) := by decide +kernel
theorem dX2_deal_53 : decode cX2_deal 53 = .ok (.ifCond .eq 7, 3) := by decide +kernel
theorem dX2_deal_56 : decode cX2_deal 56 = .ok (.iconst 0, 1) := by decide +kernel
theorem dX2_deal_57 : decode cX2_deal 57 = .ok (.goto 7, 3) := by decide +kernel
theorem dX2_deal_60 : decode cX2_deal 60 = .ok (.iload_n 3, 1) := by decide +kernel
theorem dX2_deal_61 : decode cX2_deal 61 = .ok (.bipush 10, 2) := by decide +kernel
theorem dX2_deal_63 : decode cX2_deal 63 = .ok (.idiv, 1) := by decide +kernel
theorem dX2_deal_64 : decode cX2_deal 64 = .ok (.putfield 27, 3) := by decide +kernel
theorem dX2_deal_67 : decode cX2_deal 67 = .ok (.aload_n 0, 1) := by decide +kernel
theorem dX2_deal_68 : decode cX2_deal 68 = .ok (.iconst (-1), 1) := by decide +kernel
theorem dX2_deal_69 : decode cX2_deal 69 = .ok (.putfield 30, 3) := by decide +kernel
theorem dX2_deal_72 : decode cX2_deal 72 = .ok (.aload_n 0, 1) := by decide +kernel
theorem dX2_deal_73 : decode cX2_deal 73 = .ok (.iconst 0, 1) := by decide +kernel
theorem dX2_deal_74 : decode cX2_deal 74 = .ok (.putfield 33, 3) := by decide +kernel
theorem dX2_deal_77 : decode cX2_deal 77 = .ok (.aload_n 0, 1) := by decide +kernel
theorem dX2_deal_78 : decode cX2_deal 78 = .ok (.iconst 0, 1) := by decide +kernel
theorem dX2_deal_79 : decode cX2_deal 79 = .ok (.putfield 46, 3) := by decide +kernel
theorem dX2_deal_82 : decode cX2_deal 82 = .ok (.aload_n 0, 1) := by decide +kernel
theorem dX2_deal_83 : decode cX2_deal 83 = .ok (.getfield 27, 3) := by decide +kernel
theorem dX2_deal_86 : decode cX2_deal 86 = .ok (.ireturn, 1) := by decide +kernel
set_option maxRecDepth 20000 in
theorem ggX2_play_X2_isCard : GoodIn wsX2_play wsX2_isCard := goodIn_r _ [12] (by decide +kernel) (by decide +kernel)
set_option maxRecDepth 20000 in
theorem gX2_play_X2_isCard : GoodIn wsX2_play (va_wsS RX2 68 yX2_isCard wsX2_isCard) := goodIn_app (goodIn_of _ (by decide +kernel)) ggX2_play_X2_isCard
set_option maxRecDepth 20000 in
theorem ggX2_play_X2_reasonAgainst : GoodIn wsX2_play wsX2_reasonAgainst := goodIn_r _ [16, 5, 8, 17, 18, 19, 20, 21, 11, 22, 6, 23, 24, 25, 26, 27, 28, 29, 30, 31, 32, 33, 34, 35, 36, 37, 38, 39, 40, 41, 42, 43, 44, 45, 84, 85, 86, 87, 88, 89, 90, 91, 92, 93, 94, 95, 96, 97, 98, 99] (by decide +kernel) (by decide +kernel)
set_option maxRecDepth 20000 in
theorem gX2_play_X2_reasonAgainst : GoodIn wsX2_play (wsV RX2 78 RX2 yX2_reasonAgainst wsX2_reasonAgainst) := goodIn_app (goodIn_of _ (by decide +kernel)) ggX2_play_X2_reasonAgainst
set_option maxRecDepth 20000 in
theorem ggX2_play_X2_archivist : GoodIn wsX2_play wsX2_archivist := goodIn_r _ [26, 27, 28, 84, 85, 86, 87, 88, 89, 90, 91, 92, 93, 94] (by decide +kernel) (by decide +kernel)
set_option maxRecDepth 20000 in
theorem gX2_play_X2_archivist : GoodIn wsX2_play (wsV RX2 87 RX2 yX2_archivist wsX2_archivist) := goodIn_app (goodIn_of _ (by decide +kernel)) ggX2_play_X2_archivist
set_option maxRecDepth 20000 in
theorem ggX2_play_X2_bit : GoodIn wsX2_play wsX2_bit := goodIn_r _ [48] (by decide +kernel) (by decide +kernel)
set_option maxRecDepth 20000 in
theorem gX2_play_X2_bit : GoodIn wsX2_play (va_wsS RX2 95 yX2_bit wsX2_bit) := goodIn_app (goodIn_of _ (by decide +kernel)) ggX2_play_X2_bit
set_option maxRecDepth 20000 in
theorem ggX2_play_X2_finishTrick : GoodIn wsX2_play wsX2_finishTrick := goodIn_r _ [52, 53, 54, 8, 55, 56, 27, 28, 5, 6, 57, 58, 59, 11, 60, 18, 61, 62, 63, 36, 37, 38, 23, 24, 25, 26, 64, 65, 66, 46, 47, 48, 67, 68, 69, 70, 71, 72, 73, 74, 75, 76, 17, 77, 78, 79, 80, 81, 82, 83, 95, 96, 97, 98, 99, 84, 85, 86, 87, 88, 89, 90, 91, 92, 93, 94] (by decide +kernel) (by decide +kernel)
set_option maxRecDepth 20000 in
theorem gX2_play_X2_finishTrick : GoodIn wsX2_play (wsV RX2 100 RX2 yX2_finishTrick wsX2_finishTrick) := goodIn_app (goodIn_of _ (by decide +kernel)) ggX2_play_X2_finishTrick
theorem dX2_play_0 : decode cX2_play 0 = .ok (.iload_n 1, 1) := by decide +kernel
theorem dX2_play_1 : decode cX2_play 1 = .ok (.invokestatic 68, 3) := by decide +kernel
theorem dX2_play_4 : decode cX2_play 4 = .ok (.ifCond .ne 13, 3) := by decide +kernel
theorem dX2_play_7 : decode cX2_play 7 = .ok (.new 71, 3) := by decide +kernel
theorem dX2_play_10 : decode cX2_play 10 = .ok (.dup, 1) := by decide +kernel
theorem dX2_play_11 : decode cX2_play 11 = .ok (.ldc 73, 2) := by decide +kernel
theorem dX2_play_13 : decode cX2_play 13 = .ok (.invokespecial 75, 3) := by decide +kernel
theorem dX2_play_16 : decode cX2_play 16 = .ok (.athrow, 1) := by decide +kernel
theorem dX2_play_17 : decode cX2_play 17 = .ok (.aload_n 0, 1) := by decide +kernel
theorem dX2_play_18 : decode cX2_play 18 = .ok (.iload_n 1, 1) := by decide +kernel
theorem dX2_play_19 : decode cX2_play 19 = .ok (.invokevirtual 78, 3) := by decide +kernel
theorem dX2_play_22 : decode cX2_play 22 = .ok (.ifCond .eq 13, 3) := by decide +kernel
theorem dX2_play_25 : decode cX2_play 25 = .ok (.new 82, 3) := by decide +kernel
theorem dX2_play_28 : decode cX2_play 28 = .ok (.dup, 1) := by decide +kernel
theorem dX2_play_29 : decode cX2_play 29 = .ok (.ldc 84, 2) := by decide +kernel
theorem dX2_play_31 : decode cX2_play 31 = .ok (.invokespecial 86, 3) := by decide +kernel
theorem dX2_play_34 : decode cX2_play 34 = .ok (.athrow, 1) := by decide +kernel
theorem dX2_play_35 : decode cX2_play 35 = .ok (.aload_n 0, 1) := by decide +kernel
theorem dX2_play_36 : decode cX2_play 36 = .ok (.aload_n 0, 1) := by decide +kernel
theorem dX2_play_37 : decode cX2_play 37 = .ok (.getfield 33, 3) := by decide +kernel
theorem dX2_play_40 : decode cX2_play 40 = .ok (.invokevirtual 87, 3) := by decide +kernel
theorem dX2_play_43 : decode cX2_play 43 = .ok (.astore_n 2, 1) := by decide +kernel
theorem dX2_play_44 : decode cX2_play 44 = .ok (.aload_n 2, 1) := by decide +kernel
theorem dX2_play_45 : decode cX2_play 45 = .ok (.dup, 1) := by decide +kernel
theorem dX2_play_46 : decode cX2_play 46 = .ok (.getfield 91, 3) := by decide +kernel
theorem dX2_play_49 : decode cX2_play 49 = .ok (.iload_n 1, 1) := by decide +kernel
theorem dX2_play_50 : decode cX2_play 50 = .ok (.invokestatic 95, 3) := by decide +kernel
theorem dX2_play_53 : decode cX2_play 53 = .ok (.ldc2_w 98, 3) := by decide +kernel
theorem dX2_play_56 : decode cX2_play 56 = .ok (.lxor, 1) := by decide +kernel
theorem dX2_play_57 : decode cX2_play 57 = .ok (.land, 1) := by decide +kernel
theorem dX2_play_58 : decode cX2_play 58 = .ok (.putfield 91, 3) := by decide +kernel
theorem dX2_play_61 : decode cX2_play 61 = .ok (.aload_n 0, 1) := by decide +kernel
theorem dX2_play_62 : decode cX2_play 62 = .ok (.getfield 30, 3) := by decide +kernel
theorem dX2_play_65 : decode cX2_play 65 = .ok (.iconst (-1), 1) := by decide +kernel
theorem dX2_play_66 : decode cX2_play 66 = .ok (.if_icmp .eq 9, 3) := by decide +kernel
theorem dX2_play_69 : decode cX2_play 69 = .ok (.aload_n 0, 1) := by decide +kernel
theorem dX2_play_70 : decode cX2_play 70 = .ok (.iload_n 1, 1) := by decide +kernel
theorem dX2_play_71 : decode cX2_play 71 = .ok (.invokevirtual 100, 3) := by decide +kernel
theorem dX2_play_74 : decode cX2_play 74 = .ok (.ireturn, 1) := by decide +kernel
theorem dX2_play_75 : decode cX2_play 75 = .ok (.aload_n 0, 1) := by decide +kernel
theorem dX2_play_76 : decode cX2_play 76 = .ok (.iload_n 1, 1) := by decide +kernel
theorem dX2_play_77 : decode cX2_play 77 = .ok (.putfield 30, 3) := by decide +kernel
theorem dX2_play_80 : decode cX2_play 80 = .ok (.aload_n 0, 1) := by decide +kernel
theorem dX2_play_81 : decode cX2_play 81 = .ok (.iconst 1, 1) := by decide +kernel
theorem dX2_play_82 : decode cX2_play 82 = .ok (.aload_n 0, 1) := by decide +kernel
theorem dX2_play_83 : decode cX2_play 83 = .ok (.getfield 33, 3) := by decide +kernel
theorem dX2_play_86 : decode cX2_play 86 = .ok (.isub, 1) := by decide +kernel
theorem dX2_play_87 : decode cX2_play 87 = .ok (.putfield 33, 3) := by decide +kernel
theorem dX2_play_90 : decode cX2_play 90 = .ok (.iconst (-1), 1) := by decide +kernel
theorem dX2_play_91 : decode cX2_play 91 = .ok (.ireturn, 1) := by decide +kernel
set_option maxRecDepth 20000 in
theorem ggX2_putOnGloves_X2_archivist : GoodIn wsX2_putOnGloves wsX2_archivist := goodIn_r _ [9, 10, 11, 12, 13, 14, 15, 16, 17, 18, 19, 20, 21, 22] (by decide +kernel) (by decide +kernel)
set_option maxRecDepth 20000 in
theorem gX2_putOnGloves_X2_archivist : GoodIn wsX2_putOnGloves (wsV RX2 87 RX2 yX2_archivist wsX2_archivist) := goodIn_app (goodIn_of _ (by decide +kernel)) ggX2_putOnGloves_X2_archivist
theorem dX2_putOnGloves_0 : decode cX2_putOnGloves 0 = .ok (.aload_n 0, 1) := by decide +kernel
theorem dX2_putOnGloves_1 : decode cX2_putOnGloves 1 = .ok (.getfield 33, 3) := by decide +kernel
theorem dX2_putOnGloves_4 : decode cX2_putOnGloves 4 = .ok (.iconst (-1), 1) := by decide +kernel
theorem dX2_putOnGloves_5 : decode cX2_putOnGloves 5 = .ok (.if_icmp .ne 13, 3) := by decide +kernel
theorem dX2_putOnGloves_8 : decode cX2_putOnGloves 8 = .ok (.new 82, 3) := by decide +kernel
theorem dX2_putOnGloves_11 : decode cX2_putOnGloves 11 = .ok (.dup, 1) := by decide +kernel
theorem dX2_putOnGloves_12 : decode cX2_putOnGloves 12 = .ok (.ldc 103, 2) := by decide +kernel
theorem dX2_putOnGloves_14 : decode cX2_putOnGloves 14 = .ok (.invokespecial 86, 3) := by decide +kernel
theorem dX2_putOnGloves_17 : decode cX2_putOnGloves 17 = .ok (.athrow, 1) := by decide +kernel
theorem dX2_putOnGloves_18 : decode cX2_putOnGloves 18 = .ok (.aload_n 0, 1) := by decide +kernel
theorem dX2_putOnGloves_19 : decode cX2_putOnGloves 19 = .ok (.aload_n 0, 1) := by decide +kernel
theorem dX2_putOnGloves_20 : decode cX2_putOnGloves 20 = .ok (.getfield 33, 3) := by decide +kernel
theorem dX2_putOnGloves_23 : decode cX2_putOnGloves 23 = .ok (.invokevirtual 87, 3) := by decide +kernel
theorem dX2_putOnGloves_26 : decode cX2_putOnGloves 26 = .ok (.astore_n 1, 1) := by decide +kernel
theorem dX2_putOnGloves_27 : decode cX2_putOnGloves 27 = .ok (.aload_n 1, 1) := by decide +kernel
theorem dX2_putOnGloves_28 : decode cX2_putOnGloves 28 = .ok (.getfield 105, 3) := by decide +kernel
theorem dX2_putOnGloves_31 : decode cX2_putOnGloves 31 = .ok (.ifCond .eq 13, 3) := by decide +kernel
theorem dX2_putOnGloves_34 : decode cX2_putOnGloves 34 = .ok (.new 82, 3) := by decide +kernel
theorem dX2_putOnGloves_37 : decode cX2_putOnGloves 37 = .ok (.dup, 1) := by decide +kernel
theorem dX2_putOnGloves_38 : decode cX2_putOnGloves 38 = .ok (.ldc 108, 2) := by decide +kernel
theorem dX2_putOnGloves_40 : decode cX2_putOnGloves 40 = .ok (.invokespecial 86, 3) := by decide +kernel
theorem dX2_putOnGloves_43 : decode cX2_putOnGloves 43 = .ok (.athrow, 1) := by decide +kernel
theorem dX2_putOnGloves_44 : decode cX2_putOnGloves 44 = .ok (.aload_n 1, 1) := by decide +kernel
theorem dX2_putOnGloves_45 : decode cX2_putOnGloves 45 = .ok (.iconst 1, 1) := by decide +kernel
theorem dX2_putOnGloves_46 : decode cX2_putOnGloves 46 = .ok (.putfield 105, 3) := by decide +kernel
theorem dX2_putOnGloves_49 : decode cX2_putOnGloves 49 = .ok (.aload_n 0, 1) := by decide +kernel
theorem dX2_putOnGloves_50 : decode cX2_putOnGloves 50 = .ok (.getfield 33, 3) := by decide +kernel
theorem dX2_putOnGloves_53 : decode cX2_putOnGloves 53 = .ok (.ireturn, 1) := by decide +kernel
set_option maxRecDepth 20000 in
theorem ggX2_whyNot_X2_isCard : GoodIn wsX2_whyNot wsX2_isCard := goodIn_r _ [6] (by decide +kernel) (by decide +kernel)
set_option maxRecDepth 20000 in
theorem gX2_whyNot_X2_isCard : GoodIn wsX2_whyNot (va_wsS RX2 68 yX2_isCard wsX2_isCard) := goodIn_app (goodIn_of _ (by decide +kernel)) ggX2_whyNot_X2_isCard
set_option maxRecDepth 20000 in
theorem ggX2_whyNot_X2_reasonAgainst : GoodIn wsX2_whyNot wsX2_reasonAgainst := goodIn_r _ [10, 11, 12, 13, 14, 15, 16, 17, 5, 18, 19, 20, 21, 22, 23, 24, 25, 26, 27, 28, 29, 30, 31, 32, 33, 34, 35, 36, 37, 38, 39, 40, 41, 42, 43, 44, 45, 46, 47, 48, 49, 50, 51, 52, 53, 54, 55, 56, 57, 58] (by decide +kernel) (by decide +kernel)
set_option maxRecDepth 20000 in
theorem gX2_whyNot_X2_reasonAgainst : GoodIn wsX2_whyNot (wsV RX2 78 RX2 yX2_reasonAgainst wsX2_reasonAgainst) := goodIn_app (goodIn_of _ (by decide +kernel)) ggX2_whyNot_X2_reasonAgainst
theorem dX2_whyNot_0 : decode cX2_whyNot 0 = .ok (.iload_n 1, 1) := by decide +kernel
theorem dX2_whyNot_1 : decode cX2_whyNot 1 = .ok (.invokestatic 68, 3) := by decide +kernel
theorem dX2_whyNot_4 : decode cX2_whyNot 4 = .ok (.ifCond .ne 13, 3) := by decide +kernel
theorem dX2_whyNot_7 : decode cX2_whyNot 7 = .ok (.new 71, 3) := by decide +kernel
theorem dX2_whyNot_10 : decode cX2_whyNot 10 = .ok (.dup, 1) := by decide +kernel
theorem dX2_whyNot_11 : decode cX2_whyNot 11 = .ok (.ldc 73, 2) := by decide +kernel
theorem dX2_whyNot_13 : decode cX2_whyNot 13 = .ok (.invokespecial 75, 3) := by decide +kernel
theorem dX2_whyNot_16 : decode cX2_whyNot 16 = .ok (.athrow, 1) := by decide +kernel
theorem dX2_whyNot_17 : decode cX2_whyNot 17 = .ok (.aload_n 0, 1) := by decide +kernel
theorem dX2_whyNot_18 : decode cX2_whyNot 18 = .ok (.iload_n 1, 1) := by decide +kernel
theorem dX2_whyNot_19 : decode cX2_whyNot 19 = .ok (.invokevirtual 78, 3) := by decide +kernel
theorem dX2_whyNot_22 : decode cX2_whyNot 22 = .ok (.ireturn, 1) := by decide +kernel
theorem dX2_isPlaying_0 : decode cX2_isPlaying 0 = .ok (.aload_n 0, 1) := by decide +kernel
theorem dX2_isPlaying_1 : decode cX2_isPlaying 1 = .ok (.getfield 33, 3) := by decide +kernel
theorem dX2_isPlaying_4 : decode cX2_isPlaying 4 = .ok (.iconst (-1), 1) := by decide +kernel
theorem dX2_isPlaying_5 : decode cX2_isPlaying 5 = .ok (.if_icmp .eq 7, 3) := by decide +kernel
theorem dX2_isPlaying_8 : decode cX2_isPlaying 8 = .ok (.iconst 1, 1) := by decide +kernel
theorem dX2_isPlaying_9 : decode cX2_isPlaying 9 = .ok (.goto 4, 3) := by decide +kernel
theorem dX2_isPlaying_12 : decode cX2_isPlaying 12 = .ok (.iconst 0, 1) := by decide +kernel
theorem dX2_isPlaying_13 : decode cX2_isPlaying 13 = .ok (.ireturn, 1) := by decide +kernel
theorem dX2_turn_0 : decode cX2_turn 0 = .ok (.aload_n 0, 1) := by decide +kernel
theorem dX2_turn_1 : decode cX2_turn 1 = .ok (.getfield 33, 3) := by decide +kernel
theorem dX2_turn_4 : decode cX2_turn 4 = .ok (.ireturn, 1) := by decide +kernel
theorem dX2_led_0 : decode cX2_led 0 = .ok (.aload_n 0, 1) := by decide +kernel
theorem dX2_led_1 : decode cX2_led 1 = .ok (.getfield 30, 3) := by decide +kernel
theorem dX2_led_4 : decode cX2_led 4 = .ok (.ireturn, 1) := by decide +kernel
theorem dX2_trumps_0 : decode cX2_trumps 0 = .ok (.aload_n 0, 1) := by decide +kernel
theorem dX2_trumps_1 : decode cX2_trumps 1 = .ok (.getfield 27, 3) := by decide +kernel
theorem dX2_trumps_4 : decode cX2_trumps 4 = .ok (.ireturn, 1) := by decide +kernel
theorem dX2_pile_0 : decode cX2_pile 0 = .ok (.bipush 42, 2) := by decide +kernel
theorem dX2_pile_2 : decode cX2_pile 2 = .ok (.aload_n 0, 1) := by decide +kernel
theorem dX2_pile_3 : decode cX2_pile 3 = .ok (.getfield 23, 3) := by decide +kernel
theorem dX2_pile_6 : decode cX2_pile 6 = .ok (.isub, 1) := by decide +kernel
theorem dX2_pile_7 : decode cX2_pile 7 = .ok (.ireturn, 1) := by decide +kernel
set_option maxRecDepth 20000 in
theorem ggX2_cards_X2_isArchivist : GoodIn wsX2_cards wsX2_isArchivist := goodIn_r _ [7] (by decide +kernel) (by decide +kernel)
set_option maxRecDepth 20000 in
theorem gX2_cards_X2_isArchivist : GoodIn wsX2_cards (va_wsS RX2 110 yX2_isArchivist wsX2_isArchivist) := goodIn_app (goodIn_of _ (by decide +kernel)) ggX2_cards_X2_isArchivist
set_option maxRecDepth 20000 in
theorem ggX2_cards_X2_archivist : GoodIn wsX2_cards wsX2_archivist := goodIn_r _ [11, 12, 13, 26, 27, 28, 29, 30, 31, 32, 33, 34, 35, 36] (by decide +kernel) (by decide +kernel)
set_option maxRecDepth 20000 in
theorem gX2_cards_X2_archivist : GoodIn wsX2_cards (wsV RX2 87 RX2 yX2_archivist wsX2_archivist) := goodIn_app (goodIn_of _ (by decide +kernel)) ggX2_cards_X2_archivist
set_option maxRecDepth 20000 in
theorem ggX2_cards_J13_bitCount_95d88 : GoodIn wsX2_cards wsJ13_bitCount_95d88 := goodIn_r _ [17, 18, 19, 20] (by decide +kernel) (by decide +kernel)
set_option maxRecDepth 20000 in
theorem gX2_cards_J13_bitCount_95d88 : GoodIn wsX2_cards (va_wsS RX2 118 yJ13_bitCount_95d88 wsJ13_bitCount_95d88) := goodIn_app (goodIn_of _ (by decide +kernel)) ggX2_cards_J13_bitCount_95d88
theorem dX2_cards_0 : decode cX2_cards 0 = .ok (.iload_n 1, 1) := by decide +kernel
theorem dX2_cards_1 : decode cX2_cards 1 = .ok (.invokestatic 110, 3) := by decide +kernel
theorem dX2_cards_4 : decode cX2_cards 4 = .ok (.ifCond .ne 13, 3) := by decide +kernel
theorem dX2_cards_7 : decode cX2_cards 7 = .ok (.new 113, 3) := by decide +kernel
theorem dX2_cards_10 : decode cX2_cards 10 = .ok (.dup, 1) := by decide +kernel
theorem dX2_cards_11 : decode cX2_cards 11 = .ok (.ldc 115, 2) := by decide +kernel
theorem dX2_cards_13 : decode cX2_cards 13 = .ok (.invokespecial 117, 3) := by decide +kernel
theorem dX2_cards_16 : decode cX2_cards 16 = .ok (.athrow, 1) := by decide +kernel
theorem dX2_cards_17 : decode cX2_cards 17 = .ok (.aload_n 0, 1) := by decide +kernel
theorem dX2_cards_18 : decode cX2_cards 18 = .ok (.iload_n 1, 1) := by decide +kernel
theorem dX2_cards_19 : decode cX2_cards 19 = .ok (.invokevirtual 87, 3) := by decide +kernel
theorem dX2_cards_22 : decode cX2_cards 22 = .ok (.getfield 91, 3) := by decide +kernel
theorem dX2_cards_25 : decode cX2_cards 25 = .ok (.invokestatic 118, 3) := by decide +kernel
theorem dX2_cards_28 : decode cX2_cards 28 = .ok (.ireturn, 1) := by decide +kernel
set_option maxRecDepth 20000 in
theorem ggX2_cardAt_X2_isArchivist : GoodIn wsX2_cardAt wsX2_isArchivist := goodIn_r _ [7] (by decide +kernel) (by decide +kernel)
set_option maxRecDepth 20000 in
theorem gX2_cardAt_X2_isArchivist : GoodIn wsX2_cardAt (va_wsS RX2 110 yX2_isArchivist wsX2_isArchivist) := goodIn_app (goodIn_of _ (by decide +kernel)) ggX2_cardAt_X2_isArchivist
set_option maxRecDepth 20000 in
theorem ggX2_cardAt_X2_archivist : GoodIn wsX2_cardAt wsX2_archivist := goodIn_r _ [11, 12, 13, 22, 23, 24, 25, 26, 27, 28, 29, 30, 31, 32] (by decide +kernel) (by decide +kernel)
set_option maxRecDepth 20000 in
theorem gX2_cardAt_X2_archivist : GoodIn wsX2_cardAt (wsV RX2 87 RX2 yX2_archivist wsX2_archivist) := goodIn_app (goodIn_of _ (by decide +kernel)) ggX2_cardAt_X2_archivist
set_option maxRecDepth 20000 in
theorem ggX2_cardAt_X2_has : GoodIn wsX2_cardAt wsX2_has := goodIn_r _ [16] (by decide +kernel) (by decide +kernel)
set_option maxRecDepth 20000 in
theorem gX2_cardAt_X2_has : GoodIn wsX2_cardAt (va_wsS RX2 124 yX2_has wsX2_has) := goodIn_app (goodIn_of _ (by decide +kernel)) ggX2_cardAt_X2_has
theorem dX2_cardAt_0 : decode cX2_cardAt 0 = .ok (.iload_n 1, 1) := by decide +kernel
theorem dX2_cardAt_1 : decode cX2_cardAt 1 = .ok (.invokestatic 110, 3) := by decide +kernel
theorem dX2_cardAt_4 : decode cX2_cardAt 4 = .ok (.ifCond .ne 13, 3) := by decide +kernel
theorem dX2_cardAt_7 : decode cX2_cardAt 7 = .ok (.new 113, 3) := by decide +kernel
theorem dX2_cardAt_10 : decode cX2_cardAt 10 = .ok (.dup, 1) := by decide +kernel
theorem dX2_cardAt_11 : decode cX2_cardAt 11 = .ok (.ldc 115, 2) := by decide +kernel
theorem dX2_cardAt_13 : decode cX2_cardAt 13 = .ok (.invokespecial 117, 3) := by decide +kernel
theorem dX2_cardAt_16 : decode cX2_cardAt 16 = .ok (.athrow, 1) := by decide +kernel
theorem dX2_cardAt_17 : decode cX2_cardAt 17 = .ok (.aload_n 0, 1) := by decide +kernel
theorem dX2_cardAt_18 : decode cX2_cardAt 18 = .ok (.iload_n 1, 1) := by decide +kernel
theorem dX2_cardAt_19 : decode cX2_cardAt 19 = .ok (.invokevirtual 87, 3) := by decide +kernel
theorem dX2_cardAt_22 : decode cX2_cardAt 22 = .ok (.getfield 91, 3) := by decide +kernel
theorem dX2_cardAt_25 : decode cX2_cardAt 25 = .ok (.lstore_n 3, 1) := by decide +kernel
theorem dX2_cardAt_26 : decode cX2_cardAt 26 = .ok (.iconst 0, 1) := by decide +kernel
theorem dX2_cardAt_27 : decode cX2_cardAt 27 = .ok (.istore 5, 2) := by decide +kernel
theorem dX2_cardAt_29 : decode cX2_cardAt 29 = .ok (.iconst 0, 1) := by decide +kernel
theorem dX2_cardAt_30 : decode cX2_cardAt 30 = .ok (.istore 6, 2) := by decide +kernel
theorem dX2_cardAt_32 : decode cX2_cardAt 32 = .ok (.iload 6, 2) := by decide +kernel
theorem dX2_cardAt_34 : decode cX2_cardAt 34 = .ok (.bipush 42, 2) := by decide +kernel
theorem dX2_cardAt_36 : decode cX2_cardAt 36 = .ok (.if_icmp .ge 30, 3) := by decide +kernel
theorem dX2_cardAt_39 : decode cX2_cardAt 39 = .ok (.lload_n 3, 1) := by decide +kernel
theorem dX2_cardAt_40 : decode cX2_cardAt 40 = .ok (.iload 6, 2) := by decide +kernel
theorem dX2_cardAt_42 : decode cX2_cardAt 42 = .ok (.invokestatic 124, 3) := by decide +kernel
theorem dX2_cardAt_45 : decode cX2_cardAt 45 = .ok (.ifCond .eq 15, 3) := by decide +kernel
theorem dX2_cardAt_48 : decode cX2_cardAt 48 = .ok (.iload 5, 2) := by decide +kernel
theorem dX2_cardAt_50 : decode cX2_cardAt 50 = .ok (.iload_n 2, 1) := by decide +kernel
theorem dX2_cardAt_51 : decode cX2_cardAt 51 = .ok (.if_icmp .ne 6, 3) := by decide +kernel
theorem dX2_cardAt_54 : decode cX2_cardAt 54 = .ok (.iload 6, 2) := by decide +kernel
theorem dX2_cardAt_56 : decode cX2_cardAt 56 = .ok (.ireturn, 1) := by decide +kernel
theorem dX2_cardAt_57 : decode cX2_cardAt 57 = .ok (.iinc 5 1, 3) := by decide +kernel
theorem dX2_cardAt_60 : decode cX2_cardAt 60 = .ok (.iinc 6 1, 3) := by decide +kernel
theorem dX2_cardAt_63 : decode cX2_cardAt 63 = .ok (.goto (-31), 3) := by decide +kernel
theorem dX2_cardAt_66 : decode cX2_cardAt 66 = .ok (.new 113, 3) := by decide +kernel
theorem dX2_cardAt_69 : decode cX2_cardAt 69 = .ok (.dup, 1) := by decide +kernel
theorem dX2_cardAt_70 : decode cX2_cardAt 70 = .ok (.ldc 128, 2) := by decide +kernel
theorem dX2_cardAt_72 : decode cX2_cardAt 72 = .ok (.invokespecial 117, 3) := by decide +kernel
theorem dX2_cardAt_75 : decode cX2_cardAt 75 = .ok (.athrow, 1) := by decide +kernel
set_option maxRecDepth 20000 in
theorem ggX2_placeOf_X2_isCard : GoodIn wsX2_placeOf wsX2_isCard := goodIn_r _ [12] (by decide +kernel) (by decide +kernel)
set_option maxRecDepth 20000 in
theorem gX2_placeOf_X2_isCard : GoodIn wsX2_placeOf (va_wsS RX2 68 yX2_isCard wsX2_isCard) := goodIn_app (goodIn_of _ (by decide +kernel)) ggX2_placeOf_X2_isCard
set_option maxRecDepth 20000 in
theorem ggX2_placeOf_X2_has : GoodIn wsX2_placeOf wsX2_has := goodIn_r _ [15] (by decide +kernel) (by decide +kernel)
set_option maxRecDepth 20000 in
theorem gX2_placeOf_X2_has : GoodIn wsX2_placeOf (va_wsS RX2 124 yX2_has wsX2_has) := goodIn_app (goodIn_of _ (by decide +kernel)) ggX2_placeOf_X2_has
theorem dX2_placeOf_0 : decode cX2_placeOf 0 = .ok (.iload_n 1, 1) := by decide +kernel
theorem dX2_placeOf_1 : decode cX2_placeOf 1 = .ok (.invokestatic 68, 3) := by decide +kernel
theorem dX2_placeOf_4 : decode cX2_placeOf 4 = .ok (.ifCond .ne 13, 3) := by decide +kernel
theorem dX2_placeOf_7 : decode cX2_placeOf 7 = .ok (.new 71, 3) := by decide +kernel
theorem dX2_placeOf_10 : decode cX2_placeOf 10 = .ok (.dup, 1) := by decide +kernel
theorem dX2_placeOf_11 : decode cX2_placeOf 11 = .ok (.ldc 73, 2) := by decide +kernel
theorem dX2_placeOf_13 : decode cX2_placeOf 13 = .ok (.invokespecial 75, 3) := by decide +kernel
theorem dX2_placeOf_16 : decode cX2_placeOf 16 = .ok (.athrow, 1) := by decide +kernel
theorem dX2_placeOf_17 : decode cX2_placeOf 17 = .ok (.aload_n 0, 1) := by decide +kernel
theorem dX2_placeOf_18 : decode cX2_placeOf 18 = .ok (.getfield 27, 3) := by decide +kernel
theorem dX2_placeOf_21 : decode cX2_placeOf 21 = .ok (.iconst (-1), 1) := by decide +kernel
theorem dX2_placeOf_22 : decode cX2_placeOf 22 = .ok (.if_icmp .ne 5, 3) := by decide +kernel
theorem dX2_placeOf_25 : decode cX2_placeOf 25 = .ok (.iconst (-1), 1) := by decide +kernel
theorem dX2_placeOf_26 : decode cX2_placeOf 26 = .ok (.ireturn, 1) := by decide +kernel
theorem dX2_placeOf_27 : decode cX2_placeOf 27 = .ok (.aload_n 0, 1) := by decide +kernel
theorem dX2_placeOf_28 : decode cX2_placeOf 28 = .ok (.getfield 16, 3) := by decide +kernel
theorem dX2_placeOf_31 : decode cX2_placeOf 31 = .ok (.getfield 91, 3) := by decide +kernel
theorem dX2_placeOf_34 : decode cX2_placeOf 34 = .ok (.iload_n 1, 1) := by decide +kernel
theorem dX2_placeOf_35 : decode cX2_placeOf 35 = .ok (.invokestatic 124, 3) := by decide +kernel
theorem dX2_placeOf_38 : decode cX2_placeOf 38 = .ok (.ifCond .eq 5, 3) := by decide +kernel
theorem dX2_placeOf_41 : decode cX2_placeOf 41 = .ok (.iconst 0, 1) := by decide +kernel
theorem dX2_placeOf_42 : decode cX2_placeOf 42 = .ok (.ireturn, 1) := by decide +kernel
theorem dX2_placeOf_43 : decode cX2_placeOf 43 = .ok (.aload_n 0, 1) := by decide +kernel
theorem dX2_placeOf_44 : decode cX2_placeOf 44 = .ok (.getfield 20, 3) := by decide +kernel
theorem dX2_placeOf_47 : decode cX2_placeOf 47 = .ok (.getfield 91, 3) := by decide +kernel
theorem dX2_placeOf_50 : decode cX2_placeOf 50 = .ok (.iload_n 1, 1) := by decide +kernel
theorem dX2_placeOf_51 : decode cX2_placeOf 51 = .ok (.invokestatic 124, 3) := by decide +kernel
theorem dX2_placeOf_54 : decode cX2_placeOf 54 = .ok (.ifCond .eq 5, 3) := by decide +kernel
theorem dX2_placeOf_57 : decode cX2_placeOf 57 = .ok (.iconst 1, 1) := by decide +kernel
theorem dX2_placeOf_58 : decode cX2_placeOf 58 = .ok (.ireturn, 1) := by decide +kernel
theorem dX2_placeOf_59 : decode cX2_placeOf 59 = .ok (.aload_n 0, 1) := by decide +kernel
theorem dX2_placeOf_60 : decode cX2_placeOf 60 = .ok (.getfield 16, 3) := by decide +kernel
theorem dX2_placeOf_63 : decode cX2_placeOf 63 = .ok (.getfield 130, 3) := by decide +kernel
theorem dX2_placeOf_66 : decode cX2_placeOf 66 = .ok (.iload_n 1, 1) := by decide +kernel
theorem dX2_placeOf_67 : decode cX2_placeOf 67 = .ok (.invokestatic 124, 3) := by decide +kernel
theorem dX2_placeOf_70 : decode cX2_placeOf 70 = .ok (.ifCond .eq 5, 3) := by decide +kernel
theorem dX2_placeOf_73 : decode cX2_placeOf 73 = .ok (.iconst 4, 1) := by decide +kernel
theorem dX2_placeOf_74 : decode cX2_placeOf 74 = .ok (.ireturn, 1) := by decide +kernel
theorem dX2_placeOf_75 : decode cX2_placeOf 75 = .ok (.aload_n 0, 1) := by decide +kernel
theorem dX2_placeOf_76 : decode cX2_placeOf 76 = .ok (.getfield 20, 3) := by decide +kernel
theorem dX2_placeOf_79 : decode cX2_placeOf 79 = .ok (.getfield 130, 3) := by decide +kernel
theorem dX2_placeOf_82 : decode cX2_placeOf 82 = .ok (.iload_n 1, 1) := by decide +kernel
theorem dX2_placeOf_83 : decode cX2_placeOf 83 = .ok (.invokestatic 124, 3) := by decide +kernel
theorem dX2_placeOf_86 : decode cX2_placeOf 86 = .ok (.ifCond .eq 5, 3) := by decide +kernel
theorem dX2_placeOf_89 : decode cX2_placeOf 89 = .ok (.iconst 5, 1) := by decide +kernel
theorem dX2_placeOf_90 : decode cX2_placeOf 90 = .ok (.ireturn, 1) := by decide +kernel
theorem dX2_placeOf_91 : decode cX2_placeOf 91 = .ok (.iload_n 1, 1) := by decide +kernel
theorem dX2_placeOf_92 : decode cX2_placeOf 92 = .ok (.aload_n 0, 1) := by decide +kernel
theorem dX2_placeOf_93 : decode cX2_placeOf 93 = .ok (.getfield 30, 3) := by decide +kernel
theorem dX2_placeOf_96 : decode cX2_placeOf 96 = .ok (.if_icmp .ne 7, 3) := by decide +kernel
theorem dX2_placeOf_99 : decode cX2_placeOf 99 = .ok (.iconst 3, 1) := by decide +kernel
theorem dX2_placeOf_100 : decode cX2_placeOf 100 = .ok (.goto 4, 3) := by decide +kernel
theorem dX2_placeOf_103 : decode cX2_placeOf 103 = .ok (.iconst 2, 1) := by decide +kernel
theorem dX2_placeOf_104 : decode cX2_placeOf 104 = .ok (.ireturn, 1) := by decide +kernel
set_option maxRecDepth 20000 in
theorem ggX2_points_X2_isArchivist : GoodIn wsX2_points wsX2_isArchivist := goodIn_r _ [7] (by decide +kernel) (by decide +kernel)
set_option maxRecDepth 20000 in
theorem gX2_points_X2_isArchivist : GoodIn wsX2_points (va_wsS RX2 110 yX2_isArchivist wsX2_isArchivist) := goodIn_app (goodIn_of _ (by decide +kernel)) ggX2_points_X2_isArchivist
set_option maxRecDepth 20000 in
theorem ggX2_points_X2_archivist : GoodIn wsX2_points wsX2_archivist := goodIn_r _ [11, 12, 13, 19, 20, 21, 22, 23, 24, 25, 26, 27, 28, 29] (by decide +kernel) (by decide +kernel)
set_option maxRecDepth 20000 in
theorem gX2_points_X2_archivist : GoodIn wsX2_points (wsV RX2 87 RX2 yX2_archivist wsX2_archivist) := goodIn_app (goodIn_of _ (by decide +kernel)) ggX2_points_X2_archivist
theorem dX2_points_0 : decode cX2_points 0 = .ok (.iload_n 1, 1) := by decide +kernel
theorem dX2_points_1 : decode cX2_points 1 = .ok (.invokestatic 110, 3) := by decide +kernel
theorem dX2_points_4 : decode cX2_points 4 = .ok (.ifCond .ne 13, 3) := by decide +kernel
theorem dX2_points_7 : decode cX2_points 7 = .ok (.new 113, 3) := by decide +kernel
theorem dX2_points_10 : decode cX2_points 10 = .ok (.dup, 1) := by decide +kernel
theorem dX2_points_11 : decode cX2_points 11 = .ok (.ldc 115, 2) := by decide +kernel
theorem dX2_points_13 : decode cX2_points 13 = .ok (.invokespecial 117, 3) := by decide +kernel
theorem dX2_points_16 : decode cX2_points 16 = .ok (.athrow, 1) := by decide +kernel
theorem dX2_points_17 : decode cX2_points 17 = .ok (.aload_n 0, 1) := by decide +kernel
theorem dX2_points_18 : decode cX2_points 18 = .ok (.iload_n 1, 1) := by decide +kernel
theorem dX2_points_19 : decode cX2_points 19 = .ok (.invokevirtual 87, 3) := by decide +kernel
theorem dX2_points_22 : decode cX2_points 22 = .ok (.getfield 133, 3) := by decide +kernel
theorem dX2_points_25 : decode cX2_points 25 = .ok (.ireturn, 1) := by decide +kernel
set_option maxRecDepth 20000 in
theorem ggX2_tricks_X2_isArchivist : GoodIn wsX2_tricks wsX2_isArchivist := goodIn_r _ [7] (by decide +kernel) (by decide +kernel)
set_option maxRecDepth 20000 in
theorem gX2_tricks_X2_isArchivist : GoodIn wsX2_tricks (va_wsS RX2 110 yX2_isArchivist wsX2_isArchivist) := goodIn_app (goodIn_of _ (by decide +kernel)) ggX2_tricks_X2_isArchivist
set_option maxRecDepth 20000 in
theorem ggX2_tricks_X2_archivist : GoodIn wsX2_tricks wsX2_archivist := goodIn_r _ [11, 12, 13, 19, 20, 21, 22, 23, 24, 25, 26, 27, 28, 29] (by decide +kernel) (by decide +kernel)
set_option maxRecDepth 20000 in
theorem gX2_tricks_X2_archivist : GoodIn wsX2_tricks (wsV RX2 87 RX2 yX2_archivist wsX2_archivist) := goodIn_app (goodIn_of _ (by decide +kernel)) ggX2_tricks_X2_archivist
theorem dX2_tricks_0 : decode cX2_tricks 0 = .ok (.iload_n 1, 1) := by decide +kernel
theorem dX2_tricks_1 : decode cX2_tricks 1 = .ok (.invokestatic 110, 3) := by decide +kernel
theorem dX2_tricks_4 : decode cX2_tricks 4 = .ok (.ifCond .ne 13, 3) := by decide +kernel
theorem dX2_tricks_7 : decode cX2_tricks 7 = .ok (.new 113, 3) := by decide +kernel
theorem dX2_tricks_10 : decode cX2_tricks 10 = .ok (.dup, 1) := by decide +kernel
theorem dX2_tricks_11 : decode cX2_tricks 11 = .ok (.ldc 115, 2) := by decide +kernel
theorem dX2_tricks_13 : decode cX2_tricks 13 = .ok (.invokespecial 117, 3) := by decide +kernel
theorem dX2_tricks_16 : decode cX2_tricks 16 = .ok (.athrow, 1) := by decide +kernel
theorem dX2_tricks_17 : decode cX2_tricks 17 = .ok (.aload_n 0, 1) := by decide +kernel
theorem dX2_tricks_18 : decode cX2_tricks 18 = .ok (.iload_n 1, 1) := by decide +kernel
theorem dX2_tricks_19 : decode cX2_tricks 19 = .ok (.invokevirtual 87, 3) := by decide +kernel
theorem dX2_tricks_22 : decode cX2_tricks 22 = .ok (.getfield 136, 3) := by decide +kernel
theorem dX2_tricks_25 : decode cX2_tricks 25 = .ok (.ireturn, 1) := by decide +kernel
set_option maxRecDepth 20000 in
theorem ggX2_gloves_X2_isArchivist : GoodIn wsX2_gloves wsX2_isArchivist := goodIn_r _ [7] (by decide +kernel) (by decide +kernel)
set_option maxRecDepth 20000 in
theorem gX2_gloves_X2_isArchivist : GoodIn wsX2_gloves (va_wsS RX2 110 yX2_isArchivist wsX2_isArchivist) := goodIn_app (goodIn_of _ (by decide +kernel)) ggX2_gloves_X2_isArchivist
set_option maxRecDepth 20000 in
theorem ggX2_gloves_X2_archivist : GoodIn wsX2_gloves wsX2_archivist := goodIn_r _ [11, 12, 13, 19, 20, 21, 22, 23, 24, 25, 26, 27, 28, 29] (by decide +kernel) (by decide +kernel)
set_option maxRecDepth 20000 in
theorem gX2_gloves_X2_archivist : GoodIn wsX2_gloves (wsV RX2 87 RX2 yX2_archivist wsX2_archivist) := goodIn_app (goodIn_of _ (by decide +kernel)) ggX2_gloves_X2_archivist
theorem dX2_gloves_0 : decode cX2_gloves 0 = .ok (.iload_n 1, 1) := by decide +kernel
theorem dX2_gloves_1 : decode cX2_gloves 1 = .ok (.invokestatic 110, 3) := by decide +kernel
theorem dX2_gloves_4 : decode cX2_gloves 4 = .ok (.ifCond .ne 13, 3) := by decide +kernel
theorem dX2_gloves_7 : decode cX2_gloves 7 = .ok (.new 113, 3) := by decide +kernel
theorem dX2_gloves_10 : decode cX2_gloves 10 = .ok (.dup, 1) := by decide +kernel
theorem dX2_gloves_11 : decode cX2_gloves 11 = .ok (.ldc 115, 2) := by decide +kernel
theorem dX2_gloves_13 : decode cX2_gloves 13 = .ok (.invokespecial 117, 3) := by decide +kernel
theorem dX2_gloves_16 : decode cX2_gloves 16 = .ok (.athrow, 1) := by decide +kernel
theorem dX2_gloves_17 : decode cX2_gloves 17 = .ok (.aload_n 0, 1) := by decide +kernel
theorem dX2_gloves_18 : decode cX2_gloves 18 = .ok (.iload_n 1, 1) := by decide +kernel
theorem dX2_gloves_19 : decode cX2_gloves 19 = .ok (.invokevirtual 87, 3) := by decide +kernel
theorem dX2_gloves_22 : decode cX2_gloves 22 = .ok (.getfield 105, 3) := by decide +kernel
theorem dX2_gloves_25 : decode cX2_gloves 25 = .ok (.ireturn, 1) := by decide +kernel
set_option maxRecDepth 20000 in
theorem ggX2_choices_X2_reasonAgainst : GoodIn wsX2_choices wsX2_reasonAgainst := goodIn_r _ [5, 6, 7, 8, 9, 10, 11, 12, 4, 13, 14, 15, 16, 17, 18, 19, 20, 21, 22, 23, 24, 25, 26, 27, 28, 29, 30, 31, 32, 33, 34, 35, 36, 37, 38, 39, 40, 41, 42, 43, 44, 45, 46, 47, 48, 49, 50, 51, 52, 53] (by decide +kernel) (by decide +kernel)
set_option maxRecDepth 20000 in
theorem gX2_choices_X2_reasonAgainst : GoodIn wsX2_choices (wsV RX2 78 RX2 yX2_reasonAgainst wsX2_reasonAgainst) := goodIn_app (goodIn_of _ (by decide +kernel)) ggX2_choices_X2_reasonAgainst
theorem dX2_choices_0 : decode cX2_choices 0 = .ok (.iconst 0, 1) := by decide +kernel
theorem dX2_choices_1 : decode cX2_choices 1 = .ok (.istore_n 1, 1) := by decide +kernel
theorem dX2_choices_2 : decode cX2_choices 2 = .ok (.iconst 0, 1) := by decide +kernel
theorem dX2_choices_3 : decode cX2_choices 3 = .ok (.istore_n 2, 1) := by decide +kernel
theorem dX2_choices_4 : decode cX2_choices 4 = .ok (.iload_n 2, 1) := by decide +kernel
theorem dX2_choices_5 : decode cX2_choices 5 = .ok (.bipush 42, 2) := by decide +kernel
theorem dX2_choices_7 : decode cX2_choices 7 = .ok (.if_icmp .ge 20, 3) := by decide +kernel
theorem dX2_choices_10 : decode cX2_choices 10 = .ok (.aload_n 0, 1) := by decide +kernel
theorem dX2_choices_11 : decode cX2_choices 11 = .ok (.iload_n 2, 1) := by decide +kernel
theorem dX2_choices_12 : decode cX2_choices 12 = .ok (.invokevirtual 78, 3) := by decide +kernel
theorem dX2_choices_15 : decode cX2_choices 15 = .ok (.ifCond .ne 6, 3) := by decide +kernel
theorem dX2_choices_18 : decode cX2_choices 18 = .ok (.iinc 1 1, 3) := by decide +kernel
theorem dX2_choices_21 : decode cX2_choices 21 = .ok (.iinc 2 1, 3) := by decide +kernel
theorem dX2_choices_24 : decode cX2_choices 24 = .ok (.goto (-20), 3) := by decide +kernel
theorem dX2_choices_27 : decode cX2_choices 27 = .ok (.iload_n 1, 1) := by decide +kernel
theorem dX2_choices_28 : decode cX2_choices 28 = .ok (.ireturn, 1) := by decide +kernel
set_option maxRecDepth 20000 in
theorem ggX2_wouldTake_X2_isCard : GoodIn wsX2_wouldTake wsX2_isCard := goodIn_r _ [9] (by decide +kernel) (by decide +kernel)
set_option maxRecDepth 20000 in
theorem gX2_wouldTake_X2_isCard : GoodIn wsX2_wouldTake (va_wsS RX2 68 yX2_isCard wsX2_isCard) := goodIn_app (goodIn_of _ (by decide +kernel)) ggX2_wouldTake_X2_isCard
set_option maxRecDepth 20000 in
theorem ggX2_wouldTake_X2_takerBy : GoodIn wsX2_wouldTake wsX2_takerBy := goodIn_r _ [13, 5, 14, 15, 16, 17, 8, 18, 19, 20, 21, 22, 23, 24, 25, 26, 27, 28, 29, 30, 31, 32] (by decide +kernel) (by decide +kernel)
set_option maxRecDepth 20000 in
theorem gX2_wouldTake_X2_takerBy : GoodIn wsX2_wouldTake (wsV RX2 141 RX2 yX2_takerBy wsX2_takerBy) := goodIn_app (goodIn_of _ (by decide +kernel)) ggX2_wouldTake_X2_takerBy
theorem dX2_wouldTake_0 : decode cX2_wouldTake 0 = .ok (.iload_n 1, 1) := by decide +kernel
theorem dX2_wouldTake_1 : decode cX2_wouldTake 1 = .ok (.invokestatic 68, 3) := by decide +kernel
theorem dX2_wouldTake_4 : decode cX2_wouldTake 4 = .ok (.ifCond .ne 13, 3) := by decide +kernel
theorem dX2_wouldTake_7 : decode cX2_wouldTake 7 = .ok (.new 71, 3) := by decide +kernel
theorem dX2_wouldTake_10 : decode cX2_wouldTake 10 = .ok (.dup, 1) := by decide +kernel
theorem dX2_wouldTake_11 : decode cX2_wouldTake 11 = .ok (.ldc 73, 2) := by decide +kernel
theorem dX2_wouldTake_13 : decode cX2_wouldTake 13 = .ok (.invokespecial 75, 3) := by decide +kernel
theorem dX2_wouldTake_16 : decode cX2_wouldTake 16 = .ok (.athrow, 1) := by decide +kernel
theorem dX2_wouldTake_17 : decode cX2_wouldTake 17 = .ok (.aload_n 0, 1) := by decide +kernel
theorem dX2_wouldTake_18 : decode cX2_wouldTake 18 = .ok (.getfield 30, 3) := by decide +kernel
theorem dX2_wouldTake_21 : decode cX2_wouldTake 21 = .ok (.iconst (-1), 1) := by decide +kernel
theorem dX2_wouldTake_22 : decode cX2_wouldTake 22 = .ok (.if_icmp .eq 11, 3) := by decide +kernel
theorem dX2_wouldTake_25 : decode cX2_wouldTake 25 = .ok (.aload_n 0, 1) := by decide +kernel
theorem dX2_wouldTake_26 : decode cX2_wouldTake 26 = .ok (.getfield 30, 3) := by decide +kernel
theorem dX2_wouldTake_29 : decode cX2_wouldTake 29 = .ok (.iload_n 1, 1) := by decide +kernel
theorem dX2_wouldTake_30 : decode cX2_wouldTake 30 = .ok (.if_icmp .ne 13, 3) := by decide +kernel
theorem dX2_wouldTake_33 : decode cX2_wouldTake 33 = .ok (.new 82, 3) := by decide +kernel
theorem dX2_wouldTake_36 : decode cX2_wouldTake 36 = .ok (.dup, 1) := by decide +kernel
theorem dX2_wouldTake_37 : decode cX2_wouldTake 37 = .ok (.ldc 139, 2) := by decide +kernel
theorem dX2_wouldTake_39 : decode cX2_wouldTake 39 = .ok (.invokespecial 86, 3) := by decide +kernel
theorem dX2_wouldTake_42 : decode cX2_wouldTake 42 = .ok (.athrow, 1) := by decide +kernel
theorem dX2_wouldTake_43 : decode cX2_wouldTake 43 = .ok (.aload_n 0, 1) := by decide +kernel
theorem dX2_wouldTake_44 : decode cX2_wouldTake 44 = .ok (.iload_n 1, 1) := by decide +kernel
theorem dX2_wouldTake_45 : decode cX2_wouldTake 45 = .ok (.invokevirtual 141, 3) := by decide +kernel
theorem dX2_wouldTake_48 : decode cX2_wouldTake 48 = .ok (.ireturn, 1) := by decide +kernel
theorem dX2_wonByFirst_0 : decode cX2_wonByFirst 0 = .ok (.aload_n 0, 1) := by decide +kernel
theorem dX2_wonByFirst_1 : decode cX2_wonByFirst 1 = .ok (.getfield 36, 3) := by decide +kernel
theorem dX2_wonByFirst_4 : decode cX2_wonByFirst 4 = .ok (.ireturn, 1) := by decide +kernel
theorem dX2_wonBySecond_0 : decode cX2_wonBySecond 0 = .ok (.aload_n 0, 1) := by decide +kernel
theorem dX2_wonBySecond_1 : decode cX2_wonBySecond 1 = .ok (.getfield 39, 3) := by decide +kernel
theorem dX2_wonBySecond_4 : decode cX2_wonBySecond 4 = .ok (.ireturn, 1) := by decide +kernel
set_option maxRecDepth 20000 in
theorem ggX2_shuffle_X2_exchange : GoodIn wsX2_shuffle wsX2_exchange := goodIn_r _ [8, 1, 9, 10, 11, 12, 13, 14, 15, 16, 17, 18, 19] (by decide +kernel) (by decide +kernel)
set_option maxRecDepth 20000 in
theorem gX2_shuffle_X2_exchange : GoodIn wsX2_shuffle (wsV RX2 178 RX2 yX2_exchange wsX2_exchange) := goodIn_app (goodIn_of _ (by decide +kernel)) ggX2_shuffle_X2_exchange
theorem dX2_shuffle_0 : decode cX2_shuffle 0 = .ok (.iconst 0, 1) := by decide +kernel
theorem dX2_shuffle_1 : decode cX2_shuffle 1 = .ok (.istore_n 3, 1) := by decide +kernel
theorem dX2_shuffle_2 : decode cX2_shuffle 2 = .ok (.iload_n 3, 1) := by decide +kernel
theorem dX2_shuffle_3 : decode cX2_shuffle 3 = .ok (.bipush 42, 2) := by decide +kernel
theorem dX2_shuffle_5 : decode cX2_shuffle 5 = .ok (.if_icmp .ge 16, 3) := by decide +kernel
theorem dX2_shuffle_8 : decode cX2_shuffle 8 = .ok (.aload_n 0, 1) := by decide +kernel
theorem dX2_shuffle_9 : decode cX2_shuffle 9 = .ok (.getfield 9, 3) := by decide +kernel
theorem dX2_shuffle_12 : decode cX2_shuffle 12 = .ok (.iload_n 3, 1) := by decide +kernel
theorem dX2_shuffle_13 : decode cX2_shuffle 13 = .ok (.iload_n 3, 1) := by decide +kernel
theorem dX2_shuffle_14 : decode cX2_shuffle 14 = .ok (.iastore, 1) := by decide +kernel
theorem dX2_shuffle_15 : decode cX2_shuffle 15 = .ok (.iinc 3 1, 3) := by decide +kernel
theorem dX2_shuffle_18 : decode cX2_shuffle 18 = .ok (.goto (-16), 3) := by decide +kernel
theorem dX2_shuffle_21 : decode cX2_shuffle 21 = .ok (.lload_n 1, 1) := by decide +kernel
theorem dX2_shuffle_22 : decode cX2_shuffle 22 = .ok (.lstore_n 3, 1) := by decide +kernel
theorem dX2_shuffle_23 : decode cX2_shuffle 23 = .ok (.bipush 41, 2) := by decide +kernel
theorem dX2_shuffle_25 : decode cX2_shuffle 25 = .ok (.istore 5, 2) := by decide +kernel
theorem dX2_shuffle_27 : decode cX2_shuffle 27 = .ok (.iload 5, 2) := by decide +kernel
theorem dX2_shuffle_29 : decode cX2_shuffle 29 = .ok (.iconst 1, 1) := by decide +kernel
theorem dX2_shuffle_30 : decode cX2_shuffle 30 = .ok (.if_icmp .lt 36, 3) := by decide +kernel
theorem dX2_shuffle_33 : decode cX2_shuffle 33 = .ok (.lload_n 3, 1) := by decide +kernel
theorem dX2_shuffle_34 : decode cX2_shuffle 34 = .ok (.ldc2_w 174, 3) := by decide +kernel
theorem dX2_shuffle_37 : decode cX2_shuffle 37 = .ok (.lmul, 1) := by decide +kernel
theorem dX2_shuffle_38 : decode cX2_shuffle 38 = .ok (.ldc2_w 176, 3) := by decide +kernel
theorem dX2_shuffle_41 : decode cX2_shuffle 41 = .ok (.ladd, 1) := by decide +kernel
theorem dX2_shuffle_42 : decode cX2_shuffle 42 = .ok (.lstore_n 3, 1) := by decide +kernel
theorem dX2_shuffle_43 : decode cX2_shuffle 43 = .ok (.aload_n 0, 1) := by decide +kernel
theorem dX2_shuffle_44 : decode cX2_shuffle 44 = .ok (.iload 5, 2) := by decide +kernel
theorem dX2_shuffle_46 : decode cX2_shuffle 46 = .ok (.lload_n 3, 1) := by decide +kernel
theorem dX2_shuffle_47 : decode cX2_shuffle 47 = .ok (.bipush 33, 2) := by decide +kernel
theorem dX2_shuffle_49 : decode cX2_shuffle 49 = .ok (.lushr, 1) := by decide +kernel
theorem dX2_shuffle_50 : decode cX2_shuffle 50 = .ok (.iload 5, 2) := by decide +kernel
theorem dX2_shuffle_52 : decode cX2_shuffle 52 = .ok (.iconst 1, 1) := by decide +kernel
theorem dX2_shuffle_53 : decode cX2_shuffle 53 = .ok (.iadd, 1) := by decide +kernel
theorem dX2_shuffle_54 : decode cX2_shuffle 54 = .ok (.i2l, 1) := by decide +kernel
theorem dX2_shuffle_55 : decode cX2_shuffle 55 = .ok (.lrem, 1) := by decide +kernel
theorem dX2_shuffle_56 : decode cX2_shuffle 56 = .ok (.l2i, 1) := by decide +kernel
theorem dX2_shuffle_57 : decode cX2_shuffle 57 = .ok (.invokevirtual 178, 3) := by decide +kernel
theorem dX2_shuffle_60 : decode cX2_shuffle 60 = .ok (.iinc 5 (-1), 3) := by decide +kernel
theorem dX2_shuffle_63 : decode cX2_shuffle 63 = .ok (.goto (-36), 3) := by decide +kernel
theorem dX2_shuffle_66 : decode cX2_shuffle 66 = .ok (.return_, 1) := by decide +kernel
theorem dX2_exchange_0 : decode cX2_exchange 0 = .ok (.iload_n 1, 1) := by decide +kernel
theorem dX2_exchange_1 : decode cX2_exchange 1 = .ok (.ifCond .lt 45, 3) := by decide +kernel
theorem dX2_exchange_4 : decode cX2_exchange 4 = .ok (.iload_n 1, 1) := by decide +kernel
theorem dX2_exchange_5 : decode cX2_exchange 5 = .ok (.bipush 42, 2) := by decide +kernel
theorem dX2_exchange_7 : decode cX2_exchange 7 = .ok (.if_icmp .ge 39, 3) := by decide +kernel
theorem dX2_exchange_10 : decode cX2_exchange 10 = .ok (.iload_n 2, 1) := by decide +kernel
theorem dX2_exchange_11 : decode cX2_exchange 11 = .ok (.ifCond .lt 35, 3) := by decide +kernel
theorem dX2_exchange_14 : decode cX2_exchange 14 = .ok (.iload_n 2, 1) := by decide +kernel
theorem dX2_exchange_15 : decode cX2_exchange 15 = .ok (.bipush 42, 2) := by decide +kernel
theorem dX2_exchange_17 : decode cX2_exchange 17 = .ok (.if_icmp .ge 29, 3) := by decide +kernel
theorem dX2_exchange_20 : decode cX2_exchange 20 = .ok (.aload_n 0, 1) := by decide +kernel
theorem dX2_exchange_21 : decode cX2_exchange 21 = .ok (.getfield 9, 3) := by decide +kernel
theorem dX2_exchange_24 : decode cX2_exchange 24 = .ok (.iload_n 1, 1) := by decide +kernel
theorem dX2_exchange_25 : decode cX2_exchange 25 = .ok (.iaload, 1) := by decide +kernel
theorem dX2_exchange_26 : decode cX2_exchange 26 = .ok (.istore_n 3, 1) := by decide +kernel
theorem dX2_exchange_27 : decode cX2_exchange 27 = .ok (.aload_n 0, 1) := by decide +kernel
theorem dX2_exchange_28 : decode cX2_exchange 28 = .ok (.getfield 9, 3) := by decide +kernel
theorem dX2_exchange_31 : decode cX2_exchange 31 = .ok (.iload_n 1, 1) := by decide +kernel
theorem dX2_exchange_32 : decode cX2_exchange 32 = .ok (.aload_n 0, 1) := by decide +kernel
theorem dX2_exchange_33 : decode cX2_exchange 33 = .ok (.getfield 9, 3) := by decide +kernel
theorem dX2_exchange_36 : decode cX2_exchange 36 = .ok (.iload_n 2, 1) := by decide +kernel
theorem dX2_exchange_37 : decode cX2_exchange 37 = .ok (.iaload, 1) := by decide +kernel
theorem dX2_exchange_38 : decode cX2_exchange 38 = .ok (.iastore, 1) := by decide +kernel
theorem dX2_exchange_39 : decode cX2_exchange 39 = .ok (.aload_n 0, 1) := by decide +kernel
theorem dX2_exchange_40 : decode cX2_exchange 40 = .ok (.getfield 9, 3) := by decide +kernel
theorem dX2_exchange_43 : decode cX2_exchange 43 = .ok (.iload_n 2, 1) := by decide +kernel
theorem dX2_exchange_44 : decode cX2_exchange 44 = .ok (.iload_n 3, 1) := by decide +kernel
theorem dX2_exchange_45 : decode cX2_exchange 45 = .ok (.iastore, 1) := by decide +kernel
theorem dX2_exchange_46 : decode cX2_exchange 46 = .ok (.return_, 1) := by decide +kernel
theorem dX2_putTurnedUpLast_0 : decode cX2_putTurnedUpLast 0 = .ok (.aload_n 0, 1) := by decide +kernel
theorem dX2_putTurnedUpLast_1 : decode cX2_putTurnedUpLast 1 = .ok (.getfield 9, 3) := by decide +kernel
theorem dX2_putTurnedUpLast_4 : decode cX2_putTurnedUpLast 4 = .ok (.bipush 12, 2) := by decide +kernel
theorem dX2_putTurnedUpLast_6 : decode cX2_putTurnedUpLast 6 = .ok (.iaload, 1) := by decide +kernel
theorem dX2_putTurnedUpLast_7 : decode cX2_putTurnedUpLast 7 = .ok (.istore_n 1, 1) := by decide +kernel
theorem dX2_putTurnedUpLast_8 : decode cX2_putTurnedUpLast 8 = .ok (.aload_n 0, 1) := by decide +kernel
theorem dX2_putTurnedUpLast_9 : decode cX2_putTurnedUpLast 9 = .ok (.getfield 9, 3) := by decide +kernel
theorem dX2_putTurnedUpLast_12 : decode cX2_putTurnedUpLast 12 = .ok (.bipush 13, 2) := by decide +kernel
theorem dX2_putTurnedUpLast_14 : decode cX2_putTurnedUpLast 14 = .ok (.aload_n 0, 1) := by decide +kernel
theorem dX2_putTurnedUpLast_15 : decode cX2_putTurnedUpLast 15 = .ok (.getfield 9, 3) := by decide +kernel
theorem dX2_putTurnedUpLast_18 : decode cX2_putTurnedUpLast 18 = .ok (.bipush 12, 2) := by decide +kernel
theorem dX2_putTurnedUpLast_20 : decode cX2_putTurnedUpLast 20 = .ok (.bipush 29, 2) := by decide +kernel
theorem dX2_putTurnedUpLast_22 : decode cX2_putTurnedUpLast 22 = .ok (.invokestatic 182, 3) := by decide +kernel
theorem dX2_putTurnedUpLast_25 : decode cX2_putTurnedUpLast 25 = .ok (.aload_n 0, 1) := by decide +kernel
theorem dX2_putTurnedUpLast_26 : decode cX2_putTurnedUpLast 26 = .ok (.getfield 9, 3) := by decide +kernel
theorem dX2_putTurnedUpLast_29 : decode cX2_putTurnedUpLast 29 = .ok (.bipush 41, 2) := by decide +kernel
theorem dX2_putTurnedUpLast_31 : decode cX2_putTurnedUpLast 31 = .ok (.iload_n 1, 1) := by decide +kernel
theorem dX2_putTurnedUpLast_32 : decode cX2_putTurnedUpLast 32 = .ok (.iastore, 1) := by decide +kernel
theorem dX2_putTurnedUpLast_33 : decode cX2_putTurnedUpLast 33 = .ok (.return_, 1) := by decide +kernel
set_option maxRecDepth 20000 in
theorem ggX2_handFrom_X2_bit : GoodIn wsX2_handFrom wsX2_bit := goodIn_r _ [5] (by decide +kernel) (by decide +kernel)
set_option maxRecDepth 20000 in
theorem gX2_handFrom_X2_bit : GoodIn wsX2_handFrom (va_wsS RX2 95 yX2_bit wsX2_bit) := goodIn_app (goodIn_of _ (by decide +kernel)) ggX2_handFrom_X2_bit
theorem dX2_handFrom_0 : decode cX2_handFrom 0 = .ok (.lconst 0, 1) := by decide +kernel
theorem dX2_handFrom_1 : decode cX2_handFrom 1 = .ok (.lstore_n 2, 1) := by decide +kernel
theorem dX2_handFrom_2 : decode cX2_handFrom 2 = .ok (.iconst 0, 1) := by decide +kernel
theorem dX2_handFrom_3 : decode cX2_handFrom 3 = .ok (.istore 4, 2) := by decide +kernel
theorem dX2_handFrom_5 : decode cX2_handFrom 5 = .ok (.iload 4, 2) := by decide +kernel
theorem dX2_handFrom_7 : decode cX2_handFrom 7 = .ok (.bipush 42, 2) := by decide +kernel
theorem dX2_handFrom_9 : decode cX2_handFrom 9 = .ok (.if_icmp .ge 37, 3) := by decide +kernel
theorem dX2_handFrom_12 : decode cX2_handFrom 12 = .ok (.iload 4, 2) := by decide +kernel
theorem dX2_handFrom_14 : decode cX2_handFrom 14 = .ok (.iload_n 1, 1) := by decide +kernel
theorem dX2_handFrom_15 : decode cX2_handFrom 15 = .ok (.if_icmp .lt 25, 3) := by decide +kernel
theorem dX2_handFrom_18 : decode cX2_handFrom 18 = .ok (.iload 4, 2) := by decide +kernel
theorem dX2_handFrom_20 : decode cX2_handFrom 20 = .ok (.iload_n 1, 1) := by decide +kernel
theorem dX2_handFrom_21 : decode cX2_handFrom 21 = .ok (.bipush 6, 2) := by decide +kernel
theorem dX2_handFrom_23 : decode cX2_handFrom 23 = .ok (.iadd, 1) := by decide +kernel
theorem dX2_handFrom_24 : decode cX2_handFrom 24 = .ok (.if_icmp .ge 16, 3) := by decide +kernel
theorem dX2_handFrom_27 : decode cX2_handFrom 27 = .ok (.lload_n 2, 1) := by decide +kernel
theorem dX2_handFrom_28 : decode cX2_handFrom 28 = .ok (.aload_n 0, 1) := by decide +kernel
theorem dX2_handFrom_29 : decode cX2_handFrom 29 = .ok (.getfield 9, 3) := by decide +kernel
theorem dX2_handFrom_32 : decode cX2_handFrom 32 = .ok (.iload 4, 2) := by decide +kernel
theorem dX2_handFrom_34 : decode cX2_handFrom 34 = .ok (.iaload, 1) := by decide +kernel
theorem dX2_handFrom_35 : decode cX2_handFrom 35 = .ok (.invokestatic 95, 3) := by decide +kernel
theorem dX2_handFrom_38 : decode cX2_handFrom 38 = .ok (.lor, 1) := by decide +kernel
theorem dX2_handFrom_39 : decode cX2_handFrom 39 = .ok (.lstore_n 2, 1) := by decide +kernel
theorem dX2_handFrom_40 : decode cX2_handFrom 40 = .ok (.iinc 4 1, 3) := by decide +kernel
theorem dX2_handFrom_43 : decode cX2_handFrom 43 = .ok (.goto (-38), 3) := by decide +kernel
theorem dX2_handFrom_46 : decode cX2_handFrom 46 = .ok (.lload_n 2, 1) := by decide +kernel
theorem dX2_handFrom_47 : decode cX2_handFrom 47 = .ok (.lreturn, 1) := by decide +kernel
set_option maxRecDepth 20000 in
theorem ggX2_drawFor_X2_bit : GoodIn wsX2_drawFor wsX2_bit := goodIn_r _ [7] (by decide +kernel) (by decide +kernel)
set_option maxRecDepth 20000 in
theorem gX2_drawFor_X2_bit : GoodIn wsX2_drawFor (va_wsS RX2 95 yX2_bit wsX2_bit) := goodIn_app (goodIn_of _ (by decide +kernel)) ggX2_drawFor_X2_bit
theorem dX2_drawFor_0 : decode cX2_drawFor 0 = .ok (.aload_n 0, 1) := by decide +kernel
theorem dX2_drawFor_1 : decode cX2_drawFor 1 = .ok (.getfield 23, 3) := by decide +kernel
theorem dX2_drawFor_4 : decode cX2_drawFor 4 = .ok (.ifCond .lt 43, 3) := by decide +kernel
theorem dX2_drawFor_7 : decode cX2_drawFor 7 = .ok (.aload_n 0, 1) := by decide +kernel
theorem dX2_drawFor_8 : decode cX2_drawFor 8 = .ok (.getfield 23, 3) := by decide +kernel
theorem dX2_drawFor_11 : decode cX2_drawFor 11 = .ok (.bipush 42, 2) := by decide +kernel
theorem dX2_drawFor_13 : decode cX2_drawFor 13 = .ok (.if_icmp .ge 34, 3) := by decide +kernel
theorem dX2_drawFor_16 : decode cX2_drawFor 16 = .ok (.aload_n 1, 1) := by decide +kernel
theorem dX2_drawFor_17 : decode cX2_drawFor 17 = .ok (.dup, 1) := by decide +kernel
theorem dX2_drawFor_18 : decode cX2_drawFor 18 = .ok (.getfield 91, 3) := by decide +kernel
theorem dX2_drawFor_21 : decode cX2_drawFor 21 = .ok (.aload_n 0, 1) := by decide +kernel
theorem dX2_drawFor_22 : decode cX2_drawFor 22 = .ok (.getfield 9, 3) := by decide +kernel
theorem dX2_drawFor_25 : decode cX2_drawFor 25 = .ok (.aload_n 0, 1) := by decide +kernel
theorem dX2_drawFor_26 : decode cX2_drawFor 26 = .ok (.getfield 23, 3) := by decide +kernel
theorem dX2_drawFor_29 : decode cX2_drawFor 29 = .ok (.iaload, 1) := by decide +kernel
theorem dX2_drawFor_30 : decode cX2_drawFor 30 = .ok (.invokestatic 95, 3) := by decide +kernel
theorem dX2_drawFor_33 : decode cX2_drawFor 33 = .ok (.lor, 1) := by decide +kernel
theorem dX2_drawFor_34 : decode cX2_drawFor 34 = .ok (.putfield 91, 3) := by decide +kernel
theorem dX2_drawFor_37 : decode cX2_drawFor 37 = .ok (.aload_n 0, 1) := by decide +kernel
theorem dX2_drawFor_38 : decode cX2_drawFor 38 = .ok (.dup, 1) := by decide +kernel
theorem dX2_drawFor_39 : decode cX2_drawFor 39 = .ok (.getfield 23, 3) := by decide +kernel
theorem dX2_drawFor_42 : decode cX2_drawFor 42 = .ok (.iconst 1, 1) := by decide +kernel
theorem dX2_drawFor_43 : decode cX2_drawFor 43 = .ok (.iadd, 1) := by decide +kernel
theorem dX2_drawFor_44 : decode cX2_drawFor 44 = .ok (.putfield 23, 3) := by decide +kernel
theorem dX2_drawFor_47 : decode cX2_drawFor 47 = .ok (.return_, 1) := by decide +kernel
set_option maxRecDepth 20000 in
theorem ggX2_reasonAgainst_X2_moversHand : GoodIn wsX2_reasonAgainst wsX2_moversHand := goodIn_r _ [9, 1, 10, 11, 12, 13, 8, 14, 15, 16, 34, 35, 36, 37, 38, 39, 40, 41, 42, 43, 44, 45, 46, 47, 48, 49] (by decide +kernel) (by decide +kernel)
set_option maxRecDepth 20000 in
theorem gX2_reasonAgainst_X2_moversHand : GoodIn wsX2_reasonAgainst (wsV RX2 154 RX2 yX2_moversHand wsX2_moversHand) := goodIn_app (goodIn_of _ (by decide +kernel)) ggX2_reasonAgainst_X2_moversHand
set_option maxRecDepth 20000 in
theorem ggX2_reasonAgainst_X2_has : GoodIn wsX2_reasonAgainst wsX2_has := goodIn_r _ [19] (by decide +kernel) (by decide +kernel)
set_option maxRecDepth 20000 in
theorem gX2_reasonAgainst_X2_has : GoodIn wsX2_reasonAgainst (va_wsS RX2 124 yX2_has wsX2_has) := goodIn_app (goodIn_of _ (by decide +kernel)) ggX2_reasonAgainst_X2_has
set_option maxRecDepth 20000 in
theorem ggX2_reasonAgainst_X2_reasonAgainstLeading : GoodIn wsX2_reasonAgainst wsX2_reasonAgainstLeading := goodIn_r _ [22, 23, 24, 25, 8, 26] (by decide +kernel) (by decide +kernel)
set_option maxRecDepth 20000 in
theorem gX2_reasonAgainst_X2_reasonAgainstLeading : GoodIn wsX2_reasonAgainst (va_wsS RX2 188 yX2_reasonAgainstLeading wsX2_reasonAgainstLeading) := goodIn_app (goodIn_of _ (by decide +kernel)) ggX2_reasonAgainst_X2_reasonAgainstLeading
set_option maxRecDepth 20000 in
theorem ggX2_reasonAgainst_X2_reasonAgainstReplying : GoodIn wsX2_reasonAgainst wsX2_reasonAgainstReplying := goodIn_r _ [29, 24, 25, 8, 26, 30, 31, 32, 33, 17, 18, 19] (by decide +kernel) (by decide +kernel)
set_option maxRecDepth 20000 in
theorem gX2_reasonAgainst_X2_reasonAgainstReplying : GoodIn wsX2_reasonAgainst (va_wsS RX2 192 yX2_reasonAgainstReplying wsX2_reasonAgainstReplying) := goodIn_app (goodIn_of _ (by decide +kernel)) ggX2_reasonAgainst_X2_reasonAgainstReplying
theorem dX2_reasonAgainst_0 : decode cX2_reasonAgainst 0 = .ok (.aload_n 0, 1) := by decide +kernel
theorem dX2_reasonAgainst_1 : decode cX2_reasonAgainst 1 = .ok (.getfield 33, 3) := by decide +kernel
theorem dX2_reasonAgainst_4 : decode cX2_reasonAgainst 4 = .ok (.iconst (-1), 1) := by decide +kernel
theorem dX2_reasonAgainst_5 : decode cX2_reasonAgainst 5 = .ok (.if_icmp .ne 5, 3) := by decide +kernel
theorem dX2_reasonAgainst_8 : decode cX2_reasonAgainst 8 = .ok (.iconst 1, 1) := by decide +kernel
theorem dX2_reasonAgainst_9 : decode cX2_reasonAgainst 9 = .ok (.ireturn, 1) := by decide +kernel
theorem dX2_reasonAgainst_10 : decode cX2_reasonAgainst 10 = .ok (.aload_n 0, 1) := by decide +kernel
theorem dX2_reasonAgainst_11 : decode cX2_reasonAgainst 11 = .ok (.invokevirtual 154, 3) := by decide +kernel
theorem dX2_reasonAgainst_14 : decode cX2_reasonAgainst 14 = .ok (.lstore_n 2, 1) := by decide +kernel
theorem dX2_reasonAgainst_15 : decode cX2_reasonAgainst 15 = .ok (.lload_n 2, 1) := by decide +kernel
theorem dX2_reasonAgainst_16 : decode cX2_reasonAgainst 16 = .ok (.iload_n 1, 1) := by decide +kernel
theorem dX2_reasonAgainst_17 : decode cX2_reasonAgainst 17 = .ok (.invokestatic 124, 3) := by decide +kernel
theorem dX2_reasonAgainst_20 : decode cX2_reasonAgainst 20 = .ok (.ifCond .ne 5, 3) := by decide +kernel
theorem dX2_reasonAgainst_23 : decode cX2_reasonAgainst 23 = .ok (.iconst 2, 1) := by decide +kernel
theorem dX2_reasonAgainst_24 : decode cX2_reasonAgainst 24 = .ok (.ireturn, 1) := by decide +kernel
theorem dX2_reasonAgainst_25 : decode cX2_reasonAgainst 25 = .ok (.aload_n 0, 1) := by decide +kernel
theorem dX2_reasonAgainst_26 : decode cX2_reasonAgainst 26 = .ok (.getfield 30, 3) := by decide +kernel
theorem dX2_reasonAgainst_29 : decode cX2_reasonAgainst 29 = .ok (.iconst (-1), 1) := by decide +kernel
theorem dX2_reasonAgainst_30 : decode cX2_reasonAgainst 30 = .ok (.if_icmp .ne 9, 3) := by decide +kernel
theorem dX2_reasonAgainst_33 : decode cX2_reasonAgainst 33 = .ok (.lload_n 2, 1) := by decide +kernel
theorem dX2_reasonAgainst_34 : decode cX2_reasonAgainst 34 = .ok (.iload_n 1, 1) := by decide +kernel
theorem dX2_reasonAgainst_35 : decode cX2_reasonAgainst 35 = .ok (.invokestatic 188, 3) := by decide +kernel
theorem dX2_reasonAgainst_38 : decode cX2_reasonAgainst 38 = .ok (.ireturn, 1) := by decide +kernel
theorem dX2_reasonAgainst_39 : decode cX2_reasonAgainst 39 = .ok (.aload_n 0, 1) := by decide +kernel
theorem dX2_reasonAgainst_40 : decode cX2_reasonAgainst 40 = .ok (.getfield 23, 3) := by decide +kernel
theorem dX2_reasonAgainst_43 : decode cX2_reasonAgainst 43 = .ok (.bipush 42, 2) := by decide +kernel
theorem dX2_reasonAgainst_45 : decode cX2_reasonAgainst 45 = .ok (.if_icmp .ge 7, 3) := by decide +kernel
theorem dX2_reasonAgainst_48 : decode cX2_reasonAgainst 48 = .ok (.iconst 0, 1) := by decide +kernel
theorem dX2_reasonAgainst_49 : decode cX2_reasonAgainst 49 = .ok (.goto 16, 3) := by decide +kernel
theorem dX2_reasonAgainst_52 : decode cX2_reasonAgainst 52 = .ok (.lload_n 2, 1) := by decide +kernel
theorem dX2_reasonAgainst_53 : decode cX2_reasonAgainst 53 = .ok (.iload_n 1, 1) := by decide +kernel
theorem dX2_reasonAgainst_54 : decode cX2_reasonAgainst 54 = .ok (.aload_n 0, 1) := by decide +kernel
theorem dX2_reasonAgainst_55 : decode cX2_reasonAgainst 55 = .ok (.getfield 30, 3) := by decide +kernel
theorem dX2_reasonAgainst_58 : decode cX2_reasonAgainst 58 = .ok (.aload_n 0, 1) := by decide +kernel
theorem dX2_reasonAgainst_59 : decode cX2_reasonAgainst 59 = .ok (.getfield 27, 3) := by decide +kernel
theorem dX2_reasonAgainst_62 : decode cX2_reasonAgainst 62 = .ok (.invokestatic 192, 3) := by decide +kernel
theorem dX2_reasonAgainst_65 : decode cX2_reasonAgainst 65 = .ok (.ireturn, 1) := by decide +kernel
set_option maxRecDepth 20000 in
theorem ggX2_takerBy_X2_beats : GoodIn wsX2_takerBy wsX2_beats := goodIn_r _ [7, 8, 9, 6, 10] (by decide +kernel) (by decide +kernel)
set_option maxRecDepth 20000 in
theorem gX2_takerBy_X2_beats : GoodIn wsX2_takerBy (va_wsS RX2 196 yX2_beats wsX2_beats) := goodIn_app (goodIn_of _ (by decide +kernel)) ggX2_takerBy_X2_beats
theorem dX2_takerBy_0 : decode cX2_takerBy 0 = .ok (.iload_n 1, 1) := by decide +kernel
theorem dX2_takerBy_1 : decode cX2_takerBy 1 = .ok (.aload_n 0, 1) := by decide +kernel
theorem dX2_takerBy_2 : decode cX2_takerBy 2 = .ok (.getfield 30, 3) := by decide +kernel
theorem dX2_takerBy_5 : decode cX2_takerBy 5 = .ok (.aload_n 0, 1) := by decide +kernel
theorem dX2_takerBy_6 : decode cX2_takerBy 6 = .ok (.getfield 27, 3) := by decide +kernel
theorem dX2_takerBy_9 : decode cX2_takerBy 9 = .ok (.invokestatic 196, 3) := by decide +kernel
theorem dX2_takerBy_12 : decode cX2_takerBy 12 = .ok (.ifCond .eq 10, 3) := by decide +kernel
theorem dX2_takerBy_15 : decode cX2_takerBy 15 = .ok (.aload_n 0, 1) := by decide +kernel
theorem dX2_takerBy_16 : decode cX2_takerBy 16 = .ok (.getfield 33, 3) := by decide +kernel
theorem dX2_takerBy_19 : decode cX2_takerBy 19 = .ok (.goto 9, 3) := by decide +kernel
theorem dX2_takerBy_22 : decode cX2_takerBy 22 = .ok (.iconst 1, 1) := by decide +kernel
theorem dX2_takerBy_23 : decode cX2_takerBy 23 = .ok (.aload_n 0, 1) := by decide +kernel
theorem dX2_takerBy_24 : decode cX2_takerBy 24 = .ok (.getfield 33, 3) := by decide +kernel
theorem dX2_takerBy_27 : decode cX2_takerBy 27 = .ok (.isub, 1) := by decide +kernel
theorem dX2_takerBy_28 : decode cX2_takerBy 28 = .ok (.ireturn, 1) := by decide +kernel
set_option maxRecDepth 20000 in
theorem ggX2_finishTrick_X2_takerBy : GoodIn wsX2_finishTrick wsX2_takerBy := goodIn_r _ [14, 3, 15, 8, 16, 17, 13, 18, 19, 20, 21, 55, 56, 57, 58, 59, 60, 61, 62, 63, 64, 65] (by decide +kernel) (by decide +kernel)
set_option maxRecDepth 20000 in
theorem gX2_finishTrick_X2_takerBy : GoodIn wsX2_finishTrick (wsV RX2 141 RX2 yX2_takerBy wsX2_takerBy) := goodIn_app (goodIn_of _ (by decide +kernel)) ggX2_finishTrick_X2_takerBy
set_option maxRecDepth 20000 in
theorem ggX2_finishTrick_X2_archivist : GoodIn wsX2_finishTrick wsX2_archivist := goodIn_r _ [25, 6, 7, 55, 56, 57, 58, 59, 60, 61, 62, 63, 64, 65] (by decide +kernel) (by decide +kernel)
set_option maxRecDepth 20000 in
theorem gX2_finishTrick_X2_archivist : GoodIn wsX2_finishTrick (wsV RX2 87 RX2 yX2_archivist wsX2_archivist) := goodIn_app (goodIn_of _ (by decide +kernel)) ggX2_finishTrick_X2_archivist
set_option maxRecDepth 20000 in
theorem ggX2_finishTrick_X2_worth : GoodIn wsX2_finishTrick wsX2_worth := goodIn_r _ [28, 19, 20, 13, 21] (by decide +kernel) (by decide +kernel)
set_option maxRecDepth 20000 in
theorem gX2_finishTrick_X2_worth : GoodIn wsX2_finishTrick (va_wsS RX2 200 yX2_worth wsX2_worth) := goodIn_app (goodIn_of _ (by decide +kernel)) ggX2_finishTrick_X2_worth
set_option maxRecDepth 20000 in
theorem ggX2_finishTrick_X2_bit : GoodIn wsX2_finishTrick wsX2_bit := goodIn_r _ [31] (by decide +kernel) (by decide +kernel)
set_option maxRecDepth 20000 in
theorem gX2_finishTrick_X2_bit : GoodIn wsX2_finishTrick (va_wsS RX2 95 yX2_bit wsX2_bit) := goodIn_app (goodIn_of _ (by decide +kernel)) ggX2_finishTrick_X2_bit
set_option maxRecDepth 20000 in
theorem ggX2_finishTrick_X0_loseWornGloves : GoodIn wsX2_finishTrick wsX0_loseWornGloves := goodIn_r _ [36, 37, 50, 51, 52, 53, 54] (by decide +kernel) (by decide +kernel)
set_option maxRecDepth 20000 in
theorem gX2_finishTrick_X0_loseWornGloves : GoodIn wsX2_finishTrick (wsV RX2 204 RX0 yX0_loseWornGloves wsX0_loseWornGloves) := goodIn_app (goodIn_of _ (by decide +kernel)) ggX2_finishTrick_X0_loseWornGloves
set_option maxRecDepth 20000 in
theorem ggX2_finishTrick_X2_drawFor : GoodIn wsX2_finishTrick wsX2_drawFor := goodIn_r _ [41, 42, 9, 43, 29, 30, 13, 31, 55, 56, 57, 58, 59, 60, 61, 62, 63, 64, 65, 50, 51, 52, 53, 54] (by decide +kernel) (by decide +kernel)
set_option maxRecDepth 20000 in
theorem gX2_finishTrick_X2_drawFor : GoodIn wsX2_finishTrick (wsV RX2 207 RX2 yX2_drawFor wsX2_drawFor) := goodIn_app (goodIn_of _ (by decide +kernel)) ggX2_finishTrick_X2_drawFor
set_option maxRecDepth 20000 in
theorem ggX2_finishTrick_X2_endGame : GoodIn wsX2_finishTrick wsX2_endGame := goodIn_r _ [47, 8, 6, 2, 7, 48, 49, 55, 56, 57, 58, 59, 60, 61, 62, 63, 64, 65, 50, 51, 52, 53, 54] (by decide +kernel) (by decide +kernel)
set_option maxRecDepth 20000 in
theorem gX2_finishTrick_X2_endGame : GoodIn wsX2_finishTrick (wsV RX2 211 RX2 yX2_endGame wsX2_endGame) := goodIn_app (goodIn_of _ (by decide +kernel)) ggX2_finishTrick_X2_endGame
theorem dX2_finishTrick_0 : decode cX2_finishTrick 0 = .ok (.aload_n 0, 1) := by decide +kernel
theorem dX2_finishTrick_1 : decode cX2_finishTrick 1 = .ok (.iload_n 1, 1) := by decide +kernel
theorem dX2_finishTrick_2 : decode cX2_finishTrick 2 = .ok (.invokevirtual 141, 3) := by decide +kernel
theorem dX2_finishTrick_5 : decode cX2_finishTrick 5 = .ok (.istore_n 2, 1) := by decide +kernel
theorem dX2_finishTrick_6 : decode cX2_finishTrick 6 = .ok (.aload_n 0, 1) := by decide +kernel
theorem dX2_finishTrick_7 : decode cX2_finishTrick 7 = .ok (.iload_n 2, 1) := by decide +kernel
theorem dX2_finishTrick_8 : decode cX2_finishTrick 8 = .ok (.invokevirtual 87, 3) := by decide +kernel
theorem dX2_finishTrick_11 : decode cX2_finishTrick 11 = .ok (.astore_n 3, 1) := by decide +kernel
theorem dX2_finishTrick_12 : decode cX2_finishTrick 12 = .ok (.aload_n 3, 1) := by decide +kernel
theorem dX2_finishTrick_13 : decode cX2_finishTrick 13 = .ok (.getfield 105, 3) := by decide +kernel
theorem dX2_finishTrick_16 : decode cX2_finishTrick 16 = .ok (.iconst 1, 1) := by decide +kernel
theorem dX2_finishTrick_17 : decode cX2_finishTrick 17 = .ok (.if_icmp .ne 7, 3) := by decide +kernel
theorem dX2_finishTrick_20 : decode cX2_finishTrick 20 = .ok (.iconst 1, 1) := by decide +kernel
theorem dX2_finishTrick_21 : decode cX2_finishTrick 21 = .ok (.goto 4, 3) := by decide +kernel
theorem dX2_finishTrick_24 : decode cX2_finishTrick 24 = .ok (.iconst 0, 1) := by decide +kernel
theorem dX2_finishTrick_25 : decode cX2_finishTrick 25 = .ok (.istore 4, 2) := by decide +kernel
theorem dX2_finishTrick_27 : decode cX2_finishTrick 27 = .ok (.aload_n 3, 1) := by decide +kernel
theorem dX2_finishTrick_28 : decode cX2_finishTrick 28 = .ok (.dup, 1) := by decide +kernel
theorem dX2_finishTrick_29 : decode cX2_finishTrick 29 = .ok (.getfield 133, 3) := by decide +kernel
theorem dX2_finishTrick_32 : decode cX2_finishTrick 32 = .ok (.aload_n 0, 1) := by decide +kernel
theorem dX2_finishTrick_33 : decode cX2_finishTrick 33 = .ok (.getfield 30, 3) := by decide +kernel
theorem dX2_finishTrick_36 : decode cX2_finishTrick 36 = .ok (.iload 4, 2) := by decide +kernel
theorem dX2_finishTrick_38 : decode cX2_finishTrick 38 = .ok (.invokestatic 200, 3) := by decide +kernel
theorem dX2_finishTrick_41 : decode cX2_finishTrick 41 = .ok (.iload_n 1, 1) := by decide +kernel
theorem dX2_finishTrick_42 : decode cX2_finishTrick 42 = .ok (.iload 4, 2) := by decide +kernel
theorem dX2_finishTrick_44 : decode cX2_finishTrick 44 = .ok (.invokestatic 200, 3) := by decide +kernel
theorem dX2_finishTrick_47 : decode cX2_finishTrick 47 = .ok (.iadd, 1) := by decide +kernel
theorem dX2_finishTrick_48 : decode cX2_finishTrick 48 = .ok (.iadd, 1) := by decide +kernel
theorem dX2_finishTrick_49 : decode cX2_finishTrick 49 = .ok (.putfield 133, 3) := by decide +kernel
theorem dX2_finishTrick_52 : decode cX2_finishTrick 52 = .ok (.aload_n 3, 1) := by decide +kernel
theorem dX2_finishTrick_53 : decode cX2_finishTrick 53 = .ok (.dup, 1) := by decide +kernel
theorem dX2_finishTrick_54 : decode cX2_finishTrick 54 = .ok (.getfield 136, 3) := by decide +kernel
theorem dX2_finishTrick_57 : decode cX2_finishTrick 57 = .ok (.iconst 1, 1) := by decide +kernel
theorem dX2_finishTrick_58 : decode cX2_finishTrick 58 = .ok (.iadd, 1) := by decide +kernel
theorem dX2_finishTrick_59 : decode cX2_finishTrick 59 = .ok (.putfield 136, 3) := by decide +kernel
theorem dX2_finishTrick_62 : decode cX2_finishTrick 62 = .ok (.aload_n 3, 1) := by decide +kernel
theorem dX2_finishTrick_63 : decode cX2_finishTrick 63 = .ok (.dup, 1) := by decide +kernel
theorem dX2_finishTrick_64 : decode cX2_finishTrick 64 = .ok (.getfield 130, 3) := by decide +kernel
theorem dX2_finishTrick_67 : decode cX2_finishTrick 67 = .ok (.aload_n 0, 1) := by decide +kernel
theorem dX2_finishTrick_68 : decode cX2_finishTrick 68 = .ok (.getfield 30, 3) := by decide +kernel
theorem dX2_finishTrick_71 : decode cX2_finishTrick 71 = .ok (.invokestatic 95, 3) := by decide +kernel
theorem dX2_finishTrick_74 : decode cX2_finishTrick 74 = .ok (.iload_n 1, 1) := by decide +kernel
theorem dX2_finishTrick_75 : decode cX2_finishTrick 75 = .ok (.invokestatic 95, 3) := by decide +kernel
theorem dX2_finishTrick_78 : decode cX2_finishTrick 78 = .ok (.lor, 1) := by decide +kernel
theorem dX2_finishTrick_79 : decode cX2_finishTrick 79 = .ok (.lor, 1) := by decide +kernel
theorem dX2_finishTrick_80 : decode cX2_finishTrick 80 = .ok (.putfield 130, 3) := by decide +kernel
theorem dX2_finishTrick_83 : decode cX2_finishTrick 83 = .ok (.aload_n 0, 1) := by decide +kernel
theorem dX2_finishTrick_84 : decode cX2_finishTrick 84 = .ok (.getfield 16, 3) := by decide +kernel
theorem dX2_finishTrick_87 : decode cX2_finishTrick 87 = .ok (.invokevirtual 204, 3) := by decide +kernel
theorem dX2_finishTrick_90 : decode cX2_finishTrick 90 = .ok (.aload_n 0, 1) := by decide +kernel
theorem dX2_finishTrick_91 : decode cX2_finishTrick 91 = .ok (.getfield 20, 3) := by decide +kernel
theorem dX2_finishTrick_94 : decode cX2_finishTrick 94 = .ok (.invokevirtual 204, 3) := by decide +kernel
theorem dX2_finishTrick_97 : decode cX2_finishTrick 97 = .ok (.aload_n 0, 1) := by decide +kernel
theorem dX2_finishTrick_98 : decode cX2_finishTrick 98 = .ok (.iconst (-1), 1) := by decide +kernel
theorem dX2_finishTrick_99 : decode cX2_finishTrick 99 = .ok (.putfield 30, 3) := by decide +kernel
theorem dX2_finishTrick_102 : decode cX2_finishTrick 102 = .ok (.aload_n 0, 1) := by decide +kernel
theorem dX2_finishTrick_103 : decode cX2_finishTrick 103 = .ok (.aload_n 3, 1) := by decide +kernel
theorem dX2_finishTrick_104 : decode cX2_finishTrick 104 = .ok (.invokevirtual 207, 3) := by decide +kernel
theorem dX2_finishTrick_107 : decode cX2_finishTrick 107 = .ok (.aload_n 0, 1) := by decide +kernel
theorem dX2_finishTrick_108 : decode cX2_finishTrick 108 = .ok (.aload_n 0, 1) := by decide +kernel
theorem dX2_finishTrick_109 : decode cX2_finishTrick 109 = .ok (.iconst 1, 1) := by decide +kernel
theorem dX2_finishTrick_110 : decode cX2_finishTrick 110 = .ok (.iload_n 2, 1) := by decide +kernel
theorem dX2_finishTrick_111 : decode cX2_finishTrick 111 = .ok (.isub, 1) := by decide +kernel
theorem dX2_finishTrick_112 : decode cX2_finishTrick 112 = .ok (.invokevirtual 87, 3) := by decide +kernel
theorem dX2_finishTrick_115 : decode cX2_finishTrick 115 = .ok (.invokevirtual 207, 3) := by decide +kernel
theorem dX2_finishTrick_118 : decode cX2_finishTrick 118 = .ok (.aload_n 0, 1) := by decide +kernel
theorem dX2_finishTrick_119 : decode cX2_finishTrick 119 = .ok (.iload_n 2, 1) := by decide +kernel
theorem dX2_finishTrick_120 : decode cX2_finishTrick 120 = .ok (.putfield 33, 3) := by decide +kernel
theorem dX2_finishTrick_123 : decode cX2_finishTrick 123 = .ok (.aload_n 0, 1) := by decide +kernel
theorem dX2_finishTrick_124 : decode cX2_finishTrick 124 = .ok (.getfield 16, 3) := by decide +kernel
theorem dX2_finishTrick_127 : decode cX2_finishTrick 127 = .ok (.getfield 91, 3) := by decide +kernel
theorem dX2_finishTrick_130 : decode cX2_finishTrick 130 = .ok (.aload_n 0, 1) := by decide +kernel
theorem dX2_finishTrick_131 : decode cX2_finishTrick 131 = .ok (.getfield 20, 3) := by decide +kernel
theorem dX2_finishTrick_134 : decode cX2_finishTrick 134 = .ok (.getfield 91, 3) := by decide +kernel
theorem dX2_finishTrick_137 : decode cX2_finishTrick 137 = .ok (.lor, 1) := by decide +kernel
theorem dX2_finishTrick_138 : decode cX2_finishTrick 138 = .ok (.lconst 0, 1) := by decide +kernel
theorem dX2_finishTrick_139 : decode cX2_finishTrick 139 = .ok (.lcmp, 1) := by decide +kernel
theorem dX2_finishTrick_140 : decode cX2_finishTrick 140 = .ok (.ifCond .ne 7, 3) := by decide +kernel
theorem dX2_finishTrick_143 : decode cX2_finishTrick 143 = .ok (.aload_n 0, 1) := by decide +kernel
theorem dX2_finishTrick_144 : decode cX2_finishTrick 144 = .ok (.invokevirtual 211, 3) := by decide +kernel
theorem dX2_finishTrick_147 : decode cX2_finishTrick 147 = .ok (.iload_n 2, 1) := by decide +kernel
theorem dX2_finishTrick_148 : decode cX2_finishTrick 148 = .ok (.ireturn, 1) := by decide +kernel
theorem dX2_endGame_0 : decode cX2_endGame 0 = .ok (.aload_n 0, 1) := by decide +kernel
theorem dX2_endGame_1 : decode cX2_endGame 1 = .ok (.iconst (-1), 1) := by decide +kernel
theorem dX2_endGame_2 : decode cX2_endGame 2 = .ok (.putfield 33, 3) := by decide +kernel
theorem dX2_endGame_5 : decode cX2_endGame 5 = .ok (.aload_n 0, 1) := by decide +kernel
theorem dX2_endGame_6 : decode cX2_endGame 6 = .ok (.getfield 16, 3) := by decide +kernel
theorem dX2_endGame_9 : decode cX2_endGame 9 = .ok (.getfield 133, 3) := by decide +kernel
theorem dX2_endGame_12 : decode cX2_endGame 12 = .ok (.aload_n 0, 1) := by decide +kernel
theorem dX2_endGame_13 : decode cX2_endGame 13 = .ok (.getfield 20, 3) := by decide +kernel
theorem dX2_endGame_16 : decode cX2_endGame 16 = .ok (.getfield 133, 3) := by decide +kernel
theorem dX2_endGame_19 : decode cX2_endGame 19 = .ok (.if_icmp .le 16, 3) := by decide +kernel
theorem dX2_endGame_22 : decode cX2_endGame 22 = .ok (.aload_n 0, 1) := by decide +kernel
theorem dX2_endGame_23 : decode cX2_endGame 23 = .ok (.dup, 1) := by decide +kernel
theorem dX2_endGame_24 : decode cX2_endGame 24 = .ok (.getfield 36, 3) := by decide +kernel
theorem dX2_endGame_27 : decode cX2_endGame 27 = .ok (.iconst 1, 1) := by decide +kernel
theorem dX2_endGame_28 : decode cX2_endGame 28 = .ok (.iadd, 1) := by decide +kernel
theorem dX2_endGame_29 : decode cX2_endGame 29 = .ok (.putfield 36, 3) := by decide +kernel
theorem dX2_endGame_32 : decode cX2_endGame 32 = .ok (.goto 30, 3) := by decide +kernel
theorem dX2_endGame_35 : decode cX2_endGame 35 = .ok (.aload_n 0, 1) := by decide +kernel
theorem dX2_endGame_36 : decode cX2_endGame 36 = .ok (.getfield 20, 3) := by decide +kernel
theorem dX2_endGame_39 : decode cX2_endGame 39 = .ok (.getfield 133, 3) := by decide +kernel
theorem dX2_endGame_42 : decode cX2_endGame 42 = .ok (.aload_n 0, 1) := by decide +kernel
theorem dX2_endGame_43 : decode cX2_endGame 43 = .ok (.getfield 16, 3) := by decide +kernel
theorem dX2_endGame_46 : decode cX2_endGame 46 = .ok (.getfield 133, 3) := by decide +kernel
theorem dX2_endGame_49 : decode cX2_endGame 49 = .ok (.if_icmp .le 13, 3) := by decide +kernel
theorem dX2_endGame_52 : decode cX2_endGame 52 = .ok (.aload_n 0, 1) := by decide +kernel
theorem dX2_endGame_53 : decode cX2_endGame 53 = .ok (.dup, 1) := by decide +kernel
theorem dX2_endGame_54 : decode cX2_endGame 54 = .ok (.getfield 39, 3) := by decide +kernel
theorem dX2_endGame_57 : decode cX2_endGame 57 = .ok (.iconst 1, 1) := by decide +kernel
theorem dX2_endGame_58 : decode cX2_endGame 58 = .ok (.iadd, 1) := by decide +kernel
theorem dX2_endGame_59 : decode cX2_endGame 59 = .ok (.putfield 39, 3) := by decide +kernel
theorem dX2_endGame_62 : decode cX2_endGame 62 = .ok (.return_, 1) := by decide +kernel
theorem dX2_archivist_0 : decode cX2_archivist 0 = .ok (.iload_n 1, 1) := by decide +kernel
theorem dX2_archivist_1 : decode cX2_archivist 1 = .ok (.ifCond .ne 10, 3) := by decide +kernel
theorem dX2_archivist_4 : decode cX2_archivist 4 = .ok (.aload_n 0, 1) := by decide +kernel
theorem dX2_archivist_5 : decode cX2_archivist 5 = .ok (.getfield 16, 3) := by decide +kernel
theorem dX2_archivist_8 : decode cX2_archivist 8 = .ok (.goto 7, 3) := by decide +kernel
theorem dX2_archivist_11 : decode cX2_archivist 11 = .ok (.aload_n 0, 1) := by decide +kernel
theorem dX2_archivist_12 : decode cX2_archivist 12 = .ok (.getfield 20, 3) := by decide +kernel
theorem dX2_archivist_15 : decode cX2_archivist 15 = .ok (.areturn, 1) := by decide +kernel
set_option maxRecDepth 20000 in
theorem ggX2_moversHand_X2_archivist : GoodIn wsX2_moversHand wsX2_archivist := goodIn_r _ [7, 8, 9, 10, 11, 12, 13, 14, 15, 16, 17, 18, 19, 20] (by decide +kernel) (by decide +kernel)
set_option maxRecDepth 20000 in
theorem gX2_moversHand_X2_archivist : GoodIn wsX2_moversHand (wsV RX2 87 RX2 yX2_archivist wsX2_archivist) := goodIn_app (goodIn_of _ (by decide +kernel)) ggX2_moversHand_X2_archivist
theorem dX2_moversHand_0 : decode cX2_moversHand 0 = .ok (.aload_n 0, 1) := by decide +kernel
theorem dX2_moversHand_1 : decode cX2_moversHand 1 = .ok (.aload_n 0, 1) := by decide +kernel
theorem dX2_moversHand_2 : decode cX2_moversHand 2 = .ok (.getfield 33, 3) := by decide +kernel
theorem dX2_moversHand_5 : decode cX2_moversHand 5 = .ok (.invokevirtual 87, 3) := by decide +kernel
theorem dX2_moversHand_8 : decode cX2_moversHand 8 = .ok (.getfield 91, 3) := by decide +kernel
theorem dX2_moversHand_11 : decode cX2_moversHand 11 = .ok (.lreturn, 1) := by decide +kernel
theorem dX2_isCard_0 : decode cX2_isCard 0 = .ok (.iload_n 0, 1) := by decide +kernel
theorem dX2_isCard_1 : decode cX2_isCard 1 = .ok (.ifCond .lt 13, 3) := by decide +kernel
theorem dX2_isCard_4 : decode cX2_isCard 4 = .ok (.iload_n 0, 1) := by decide +kernel
theorem dX2_isCard_5 : decode cX2_isCard 5 = .ok (.bipush 42, 2) := by decide +kernel
theorem dX2_isCard_7 : decode cX2_isCard 7 = .ok (.if_icmp .ge 7, 3) := by decide +kernel
theorem dX2_isCard_10 : decode cX2_isCard 10 = .ok (.iconst 1, 1) := by decide +kernel
theorem dX2_isCard_11 : decode cX2_isCard 11 = .ok (.goto 4, 3) := by decide +kernel
theorem dX2_isCard_14 : decode cX2_isCard 14 = .ok (.iconst 0, 1) := by decide +kernel
theorem dX2_isCard_15 : decode cX2_isCard 15 = .ok (.ireturn, 1) := by decide +kernel
theorem dX2_isArchivist_0 : decode cX2_isArchivist 0 = .ok (.iload_n 0, 1) := by decide +kernel
theorem dX2_isArchivist_1 : decode cX2_isArchivist 1 = .ok (.ifCond .eq 8, 3) := by decide +kernel
theorem dX2_isArchivist_4 : decode cX2_isArchivist 4 = .ok (.iload_n 0, 1) := by decide +kernel
theorem dX2_isArchivist_5 : decode cX2_isArchivist 5 = .ok (.iconst 1, 1) := by decide +kernel
theorem dX2_isArchivist_6 : decode cX2_isArchivist 6 = .ok (.if_icmp .ne 7, 3) := by decide +kernel
theorem dX2_isArchivist_9 : decode cX2_isArchivist 9 = .ok (.iconst 1, 1) := by decide +kernel
theorem dX2_isArchivist_10 : decode cX2_isArchivist 10 = .ok (.goto 4, 3) := by decide +kernel
theorem dX2_isArchivist_13 : decode cX2_isArchivist 13 = .ok (.iconst 0, 1) := by decide +kernel
theorem dX2_isArchivist_14 : decode cX2_isArchivist 14 = .ok (.ireturn, 1) := by decide +kernel
theorem dX2_isMildew_0 : decode cX2_isMildew 0 = .ok (.iload_n 0, 1) := by decide +kernel
theorem dX2_isMildew_1 : decode cX2_isMildew 1 = .ok (.bipush 40, 2) := by decide +kernel
theorem dX2_isMildew_3 : decode cX2_isMildew 3 = .ok (.if_icmp .lt 7, 3) := by decide +kernel
theorem dX2_isMildew_6 : decode cX2_isMildew 6 = .ok (.iconst 1, 1) := by decide +kernel
theorem dX2_isMildew_7 : decode cX2_isMildew 7 = .ok (.goto 4, 3) := by decide +kernel
theorem dX2_isMildew_10 : decode cX2_isMildew 10 = .ok (.iconst 0, 1) := by decide +kernel
theorem dX2_isMildew_11 : decode cX2_isMildew 11 = .ok (.ireturn, 1) := by decide +kernel
theorem dX2_bit_0 : decode cX2_bit 0 = .ok (.lconst 1, 1) := by decide +kernel
theorem dX2_bit_1 : decode cX2_bit 1 = .ok (.iload_n 0, 1) := by decide +kernel
theorem dX2_bit_2 : decode cX2_bit 2 = .ok (.lshl, 1) := by decide +kernel
theorem dX2_bit_3 : decode cX2_bit 3 = .ok (.lreturn, 1) := by decide +kernel
theorem dX2_has_0 : decode cX2_has 0 = .ok (.lload_n 0, 1) := by decide +kernel
theorem dX2_has_1 : decode cX2_has 1 = .ok (.iload_n 2, 1) := by decide +kernel
theorem dX2_has_2 : decode cX2_has 2 = .ok (.lushr, 1) := by decide +kernel
theorem dX2_has_3 : decode cX2_has 3 = .ok (.lconst 1, 1) := by decide +kernel
theorem dX2_has_4 : decode cX2_has 4 = .ok (.land, 1) := by decide +kernel
theorem dX2_has_5 : decode cX2_has 5 = .ok (.lconst 0, 1) := by decide +kernel
theorem dX2_has_6 : decode cX2_has 6 = .ok (.lcmp, 1) := by decide +kernel
theorem dX2_has_7 : decode cX2_has 7 = .ok (.ifCond .eq 7, 3) := by decide +kernel
theorem dX2_has_10 : decode cX2_has 10 = .ok (.iconst 1, 1) := by decide +kernel
theorem dX2_has_11 : decode cX2_has 11 = .ok (.goto 4, 3) := by decide +kernel
theorem dX2_has_14 : decode cX2_has 14 = .ok (.iconst 0, 1) := by decide +kernel
theorem dX2_has_15 : decode cX2_has 15 = .ok (.ireturn, 1) := by decide +kernel
theorem dX2_allOf_0 : decode cX2_allOf 0 = .ok (.ldc2_w 218, 3) := by decide +kernel
theorem dX2_allOf_3 : decode cX2_allOf 3 = .ok (.iload_n 0, 1) := by decide +kernel
theorem dX2_allOf_4 : decode cX2_allOf 4 = .ok (.bipush 10, 2) := by decide +kernel
theorem dX2_allOf_6 : decode cX2_allOf 6 = .ok (.imul, 1) := by decide +kernel
theorem dX2_allOf_7 : decode cX2_allOf 7 = .ok (.lshl, 1) := by decide +kernel
theorem dX2_allOf_8 : decode cX2_allOf 8 = .ok (.lreturn, 1) := by decide +kernel
set_option maxRecDepth 20000 in
theorem ggX2_worth_X2_isMildew : GoodIn wsX2_worth wsX2_isMildew := goodIn_r _ [4] (by decide +kernel) (by decide +kernel)
set_option maxRecDepth 20000 in
theorem gX2_worth_X2_isMildew : GoodIn wsX2_worth (va_wsS RX2 64 yX2_isMildew wsX2_isMildew) := goodIn_app (goodIn_of _ (by decide +kernel)) ggX2_worth_X2_isMildew
theorem dX2_worth_0 : decode cX2_worth 0 = .ok (.iload_n 0, 1) := by decide +kernel
theorem dX2_worth_1 : decode cX2_worth 1 = .ok (.invokestatic 64, 3) := by decide +kernel
theorem dX2_worth_4 : decode cX2_worth 4 = .ok (.ifCond .eq 14, 3) := by decide +kernel
theorem dX2_worth_7 : decode cX2_worth 7 = .ok (.iload_n 1, 1) := by decide +kernel
theorem dX2_worth_8 : decode cX2_worth 8 = .ok (.ifCond .eq 7, 3) := by decide +kernel
theorem dX2_worth_11 : decode cX2_worth 11 = .ok (.iconst 0, 1) := by decide +kernel
theorem dX2_worth_12 : decode cX2_worth 12 = .ok (.goto 5, 3) := by decide +kernel
theorem dX2_worth_15 : decode cX2_worth 15 = .ok (.bipush (-5), 2) := by decide +kernel
theorem dX2_worth_17 : decode cX2_worth 17 = .ok (.ireturn, 1) := by decide +kernel
theorem dX2_worth_18 : decode cX2_worth 18 = .ok (.bipush 10, 2) := by decide +kernel
theorem dX2_worth_20 : decode cX2_worth 20 = .ok (.iload_n 0, 1) := by decide +kernel
theorem dX2_worth_21 : decode cX2_worth 21 = .ok (.bipush 10, 2) := by decide +kernel
theorem dX2_worth_23 : decode cX2_worth 23 = .ok (.irem, 1) := by decide +kernel
theorem dX2_worth_24 : decode cX2_worth 24 = .ok (.isub, 1) := by decide +kernel
theorem dX2_worth_25 : decode cX2_worth 25 = .ok (.ireturn, 1) := by decide +kernel
set_option maxRecDepth 20000 in
theorem ggX2_beats_X2_isMildew : GoodIn wsX2_beats wsX2_isMildew := goodIn_r _ [4] (by decide +kernel) (by decide +kernel)
set_option maxRecDepth 20000 in
theorem gX2_beats_X2_isMildew : GoodIn wsX2_beats (va_wsS RX2 64 yX2_isMildew wsX2_isMildew) := goodIn_app (goodIn_of _ (by decide +kernel)) ggX2_beats_X2_isMildew
theorem dX2_beats_0 : decode cX2_beats 0 = .ok (.iload_n 0, 1) := by decide +kernel
theorem dX2_beats_1 : decode cX2_beats 1 = .ok (.invokestatic 64, 3) := by decide +kernel
theorem dX2_beats_4 : decode cX2_beats 4 = .ok (.ifCond .eq 5, 3) := by decide +kernel
theorem dX2_beats_7 : decode cX2_beats 7 = .ok (.iconst 0, 1) := by decide +kernel
theorem dX2_beats_8 : decode cX2_beats 8 = .ok (.ireturn, 1) := by decide +kernel
theorem dX2_beats_9 : decode cX2_beats 9 = .ok (.iload_n 1, 1) := by decide +kernel
theorem dX2_beats_10 : decode cX2_beats 10 = .ok (.invokestatic 64, 3) := by decide +kernel
theorem dX2_beats_13 : decode cX2_beats 13 = .ok (.ifCond .eq 5, 3) := by decide +kernel
theorem dX2_beats_16 : decode cX2_beats 16 = .ok (.iconst 1, 1) := by decide +kernel
theorem dX2_beats_17 : decode cX2_beats 17 = .ok (.ireturn, 1) := by decide +kernel
theorem dX2_beats_18 : decode cX2_beats 18 = .ok (.iload_n 0, 1) := by decide +kernel
theorem dX2_beats_19 : decode cX2_beats 19 = .ok (.bipush 10, 2) := by decide +kernel
theorem dX2_beats_21 : decode cX2_beats 21 = .ok (.idiv, 1) := by decide +kernel
theorem dX2_beats_22 : decode cX2_beats 22 = .ok (.iload_n 1, 1) := by decide +kernel
theorem dX2_beats_23 : decode cX2_beats 23 = .ok (.bipush 10, 2) := by decide +kernel
theorem dX2_beats_25 : decode cX2_beats 25 = .ok (.idiv, 1) := by decide +kernel
theorem dX2_beats_26 : decode cX2_beats 26 = .ok (.if_icmp .ne 14, 3) := by decide +kernel
theorem dX2_beats_29 : decode cX2_beats 29 = .ok (.iload_n 0, 1) := by decide +kernel
theorem dX2_beats_30 : decode cX2_beats 30 = .ok (.iload_n 1, 1) := by decide +kernel
theorem dX2_beats_31 : decode cX2_beats 31 = .ok (.if_icmp .ge 7, 3) := by decide +kernel
theorem dX2_beats_34 : decode cX2_beats 34 = .ok (.iconst 1, 1) := by decide +kernel
theorem dX2_beats_35 : decode cX2_beats 35 = .ok (.goto 4, 3) := by decide +kernel
theorem dX2_beats_38 : decode cX2_beats 38 = .ok (.iconst 0, 1) := by decide +kernel
theorem dX2_beats_39 : decode cX2_beats 39 = .ok (.ireturn, 1) := by decide +kernel
theorem dX2_beats_40 : decode cX2_beats 40 = .ok (.iload_n 0, 1) := by decide +kernel
theorem dX2_beats_41 : decode cX2_beats 41 = .ok (.bipush 10, 2) := by decide +kernel
theorem dX2_beats_43 : decode cX2_beats 43 = .ok (.idiv, 1) := by decide +kernel
theorem dX2_beats_44 : decode cX2_beats 44 = .ok (.iload_n 2, 1) := by decide +kernel
theorem dX2_beats_45 : decode cX2_beats 45 = .ok (.if_icmp .ne 7, 3) := by decide +kernel
theorem dX2_beats_48 : decode cX2_beats 48 = .ok (.iconst 1, 1) := by decide +kernel
theorem dX2_beats_49 : decode cX2_beats 49 = .ok (.goto 4, 3) := by decide +kernel
theorem dX2_beats_52 : decode cX2_beats 52 = .ok (.iconst 0, 1) := by decide +kernel
theorem dX2_beats_53 : decode cX2_beats 53 = .ok (.ireturn, 1) := by decide +kernel
set_option maxRecDepth 20000 in
theorem ggX2_reasonAgainstLeading_X2_isMildew : GoodIn wsX2_reasonAgainstLeading wsX2_isMildew := goodIn_r _ [5] (by decide +kernel) (by decide +kernel)
set_option maxRecDepth 20000 in
theorem gX2_reasonAgainstLeading_X2_isMildew : GoodIn wsX2_reasonAgainstLeading (va_wsS RX2 64 yX2_isMildew wsX2_isMildew) := goodIn_app (goodIn_of _ (by decide +kernel)) ggX2_reasonAgainstLeading_X2_isMildew
theorem dX2_reasonAgainstLeading_0 : decode cX2_reasonAgainstLeading 0 = .ok (.iload_n 2, 1) := by decide +kernel
theorem dX2_reasonAgainstLeading_1 : decode cX2_reasonAgainstLeading 1 = .ok (.invokestatic 64, 3) := by decide +kernel
theorem dX2_reasonAgainstLeading_4 : decode cX2_reasonAgainstLeading 4 = .ok (.ifCond .eq 17, 3) := by decide +kernel
theorem dX2_reasonAgainstLeading_7 : decode cX2_reasonAgainstLeading 7 = .ok (.lload_n 0, 1) := by decide +kernel
theorem dX2_reasonAgainstLeading_8 : decode cX2_reasonAgainstLeading 8 = .ok (.ldc2_w 220, 3) := by decide +kernel
theorem dX2_reasonAgainstLeading_11 : decode cX2_reasonAgainstLeading 11 = .ok (.land, 1) := by decide +kernel
theorem dX2_reasonAgainstLeading_12 : decode cX2_reasonAgainstLeading 12 = .ok (.lconst 0, 1) := by decide +kernel
theorem dX2_reasonAgainstLeading_13 : decode cX2_reasonAgainstLeading 13 = .ok (.lcmp, 1) := by decide +kernel
theorem dX2_reasonAgainstLeading_14 : decode cX2_reasonAgainstLeading 14 = .ok (.ifCond .eq 7, 3) := by decide +kernel
theorem dX2_reasonAgainstLeading_17 : decode cX2_reasonAgainstLeading 17 = .ok (.iconst 3, 1) := by decide +kernel
theorem dX2_reasonAgainstLeading_18 : decode cX2_reasonAgainstLeading 18 = .ok (.goto 4, 3) := by decide +kernel
theorem dX2_reasonAgainstLeading_21 : decode cX2_reasonAgainstLeading 21 = .ok (.iconst 0, 1) := by decide +kernel
theorem dX2_reasonAgainstLeading_22 : decode cX2_reasonAgainstLeading 22 = .ok (.ireturn, 1) := by decide +kernel
set_option maxRecDepth 20000 in
theorem ggX2_reasonAgainstReplying_X2_isMildew : GoodIn wsX2_reasonAgainstReplying wsX2_isMildew := goodIn_r _ [4] (by decide +kernel) (by decide +kernel)
set_option maxRecDepth 20000 in
theorem gX2_reasonAgainstReplying_X2_isMildew : GoodIn wsX2_reasonAgainstReplying (va_wsS RX2 64 yX2_isMildew wsX2_isMildew) := goodIn_app (goodIn_of _ (by decide +kernel)) ggX2_reasonAgainstReplying_X2_isMildew
set_option maxRecDepth 20000 in
theorem ggX2_reasonAgainstReplying_X2_allOf : GoodIn wsX2_reasonAgainstReplying wsX2_allOf := goodIn_r _ [7, 8] (by decide +kernel) (by decide +kernel)
set_option maxRecDepth 20000 in
theorem gX2_reasonAgainstReplying_X2_allOf : GoodIn wsX2_reasonAgainstReplying (va_wsS RX2 222 yX2_allOf wsX2_allOf) := goodIn_app (goodIn_of _ (by decide +kernel)) ggX2_reasonAgainstReplying_X2_allOf
set_option maxRecDepth 20000 in
theorem ggX2_reasonAgainstReplying_X2_has : GoodIn wsX2_reasonAgainstReplying wsX2_has := goodIn_r _ [11] (by decide +kernel) (by decide +kernel)
set_option maxRecDepth 20000 in
theorem gX2_reasonAgainstReplying_X2_has : GoodIn wsX2_reasonAgainstReplying (va_wsS RX2 124 yX2_has wsX2_has) := goodIn_app (goodIn_of _ (by decide +kernel)) ggX2_reasonAgainstReplying_X2_has
theorem dX2_reasonAgainstReplying_0 : decode cX2_reasonAgainstReplying 0 = .ok (.iload_n 3, 1) := by decide +kernel
theorem dX2_reasonAgainstReplying_1 : decode cX2_reasonAgainstReplying 1 = .ok (.invokestatic 64, 3) := by decide +kernel
theorem dX2_reasonAgainstReplying_4 : decode cX2_reasonAgainstReplying 4 = .ok (.ifCond .eq 5, 3) := by decide +kernel
theorem dX2_reasonAgainstReplying_7 : decode cX2_reasonAgainstReplying 7 = .ok (.iconst 0, 1) := by decide +kernel
theorem dX2_reasonAgainstReplying_8 : decode cX2_reasonAgainstReplying 8 = .ok (.ireturn, 1) := by decide +kernel
theorem dX2_reasonAgainstReplying_9 : decode cX2_reasonAgainstReplying 9 = .ok (.lload_n 0, 1) := by decide +kernel
theorem dX2_reasonAgainstReplying_10 : decode cX2_reasonAgainstReplying 10 = .ok (.iload_n 3, 1) := by decide +kernel
theorem dX2_reasonAgainstReplying_11 : decode cX2_reasonAgainstReplying 11 = .ok (.bipush 10, 2) := by decide +kernel
theorem dX2_reasonAgainstReplying_13 : decode cX2_reasonAgainstReplying 13 = .ok (.idiv, 1) := by decide +kernel
theorem dX2_reasonAgainstReplying_14 : decode cX2_reasonAgainstReplying 14 = .ok (.invokestatic 222, 3) := by decide +kernel
theorem dX2_reasonAgainstReplying_17 : decode cX2_reasonAgainstReplying 17 = .ok (.land, 1) := by decide +kernel
theorem dX2_reasonAgainstReplying_18 : decode cX2_reasonAgainstReplying 18 = .ok (.lstore 5, 2) := by decide +kernel
theorem dX2_reasonAgainstReplying_20 : decode cX2_reasonAgainstReplying 20 = .ok (.lload 5, 2) := by decide +kernel
theorem dX2_reasonAgainstReplying_22 : decode cX2_reasonAgainstReplying 22 = .ok (.lconst 0, 1) := by decide +kernel
theorem dX2_reasonAgainstReplying_23 : decode cX2_reasonAgainstReplying 23 = .ok (.lcmp, 1) := by decide +kernel
theorem dX2_reasonAgainstReplying_24 : decode cX2_reasonAgainstReplying 24 = .ok (.ifCond .eq 18, 3) := by decide +kernel
theorem dX2_reasonAgainstReplying_27 : decode cX2_reasonAgainstReplying 27 = .ok (.lload 5, 2) := by decide +kernel
theorem dX2_reasonAgainstReplying_29 : decode cX2_reasonAgainstReplying 29 = .ok (.iload_n 2, 1) := by decide +kernel
theorem dX2_reasonAgainstReplying_30 : decode cX2_reasonAgainstReplying 30 = .ok (.invokestatic 124, 3) := by decide +kernel
theorem dX2_reasonAgainstReplying_33 : decode cX2_reasonAgainstReplying 33 = .ok (.ifCond .eq 7, 3) := by decide +kernel
theorem dX2_reasonAgainstReplying_36 : decode cX2_reasonAgainstReplying 36 = .ok (.iconst 0, 1) := by decide +kernel
theorem dX2_reasonAgainstReplying_37 : decode cX2_reasonAgainstReplying 37 = .ok (.goto 4, 3) := by decide +kernel
theorem dX2_reasonAgainstReplying_40 : decode cX2_reasonAgainstReplying 40 = .ok (.iconst 4, 1) := by decide +kernel
theorem dX2_reasonAgainstReplying_41 : decode cX2_reasonAgainstReplying 41 = .ok (.ireturn, 1) := by decide +kernel
theorem dX2_reasonAgainstReplying_42 : decode cX2_reasonAgainstReplying 42 = .ok (.lload_n 0, 1) := by decide +kernel
theorem dX2_reasonAgainstReplying_43 : decode cX2_reasonAgainstReplying 43 = .ok (.iload 4, 2) := by decide +kernel
theorem dX2_reasonAgainstReplying_45 : decode cX2_reasonAgainstReplying 45 = .ok (.invokestatic 222, 3) := by decide +kernel
theorem dX2_reasonAgainstReplying_48 : decode cX2_reasonAgainstReplying 48 = .ok (.land, 1) := by decide +kernel
theorem dX2_reasonAgainstReplying_49 : decode cX2_reasonAgainstReplying 49 = .ok (.lstore 7, 2) := by decide +kernel
theorem dX2_reasonAgainstReplying_51 : decode cX2_reasonAgainstReplying 51 = .ok (.lload 7, 2) := by decide +kernel
theorem dX2_reasonAgainstReplying_53 : decode cX2_reasonAgainstReplying 53 = .ok (.lconst 0, 1) := by decide +kernel
theorem dX2_reasonAgainstReplying_54 : decode cX2_reasonAgainstReplying 54 = .ok (.lcmp, 1) := by decide +kernel
theorem dX2_reasonAgainstReplying_55 : decode cX2_reasonAgainstReplying 55 = .ok (.ifCond .eq 18, 3) := by decide +kernel
theorem dX2_reasonAgainstReplying_58 : decode cX2_reasonAgainstReplying 58 = .ok (.lload 7, 2) := by decide +kernel
theorem dX2_reasonAgainstReplying_60 : decode cX2_reasonAgainstReplying 60 = .ok (.iload_n 2, 1) := by decide +kernel
theorem dX2_reasonAgainstReplying_61 : decode cX2_reasonAgainstReplying 61 = .ok (.invokestatic 124, 3) := by decide +kernel
theorem dX2_reasonAgainstReplying_64 : decode cX2_reasonAgainstReplying 64 = .ok (.ifCond .eq 7, 3) := by decide +kernel
theorem dX2_reasonAgainstReplying_67 : decode cX2_reasonAgainstReplying 67 = .ok (.iconst 0, 1) := by decide +kernel
theorem dX2_reasonAgainstReplying_68 : decode cX2_reasonAgainstReplying 68 = .ok (.goto 4, 3) := by decide +kernel
theorem dX2_reasonAgainstReplying_71 : decode cX2_reasonAgainstReplying 71 = .ok (.iconst 5, 1) := by decide +kernel
theorem dX2_reasonAgainstReplying_72 : decode cX2_reasonAgainstReplying 72 = .ok (.ireturn, 1) := by decide +kernel
theorem dX2_reasonAgainstReplying_73 : decode cX2_reasonAgainstReplying 73 = .ok (.iconst 0, 1) := by decide +kernel
theorem dX2_reasonAgainstReplying_74 : decode cX2_reasonAgainstReplying 74 = .ok (.ireturn, 1) := by decide +kernel
