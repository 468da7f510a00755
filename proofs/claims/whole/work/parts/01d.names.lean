theorem dJ13_bitCount_95d88_0 : decode cJ13_bitCount_95d88 0 = .ok (.lload_n 0, 1) := by decide +kernel
theorem dJ13_bitCount_95d88_1 : decode cJ13_bitCount_95d88 1 = .ok (.lload_n 0, 1) := by decide +kernel
theorem dJ13_bitCount_95d88_2 : decode cJ13_bitCount_95d88 2 = .ok (.iconst 1, 1) := by decide +kernel
theorem dJ13_bitCount_95d88_3 : decode cJ13_bitCount_95d88 3 = .ok (.lushr, 1) := by decide +kernel
theorem dJ13_bitCount_95d88_4 : decode cJ13_bitCount_95d88 4 = .ok (.ldc2_w 314, 3) := by decide +kernel
theorem dJ13_bitCount_95d88_7 : decode cJ13_bitCount_95d88 7 = .ok (.land, 1) := by decide +kernel
theorem dJ13_bitCount_95d88_8 : decode cJ13_bitCount_95d88 8 = .ok (.lsub, 1) := by decide +kernel
theorem dJ13_bitCount_95d88_9 : decode cJ13_bitCount_95d88 9 = .ok (.lstore_n 0, 1) := by decide +kernel
theorem dJ13_bitCount_95d88_10 : decode cJ13_bitCount_95d88 10 = .ok (.lload_n 0, 1) := by decide +kernel
theorem dJ13_bitCount_95d88_11 : decode cJ13_bitCount_95d88 11 = .ok (.ldc2_w 316, 3) := by decide +kernel
theorem dJ13_bitCount_95d88_14 : decode cJ13_bitCount_95d88 14 = .ok (.land, 1) := by decide +kernel
theorem dJ13_bitCount_95d88_15 : decode cJ13_bitCount_95d88 15 = .ok (.lload_n 0, 1) := by decide +kernel
theorem dJ13_bitCount_95d88_16 : decode cJ13_bitCount_95d88 16 = .ok (.iconst 2, 1) := by decide +kernel
theorem dJ13_bitCount_95d88_17 : decode cJ13_bitCount_95d88 17 = .ok (.lushr, 1) := by decide +kernel
theorem dJ13_bitCount_95d88_18 : decode cJ13_bitCount_95d88 18 = .ok (.ldc2_w 316, 3) := by decide +kernel
theorem dJ13_bitCount_95d88_21 : decode cJ13_bitCount_95d88 21 = .ok (.land, 1) := by decide +kernel
theorem dJ13_bitCount_95d88_22 : decode cJ13_bitCount_95d88 22 = .ok (.ladd, 1) := by decide +kernel
theorem dJ13_bitCount_95d88_23 : decode cJ13_bitCount_95d88 23 = .ok (.lstore_n 0, 1) := by decide +kernel
theorem dJ13_bitCount_95d88_24 : decode cJ13_bitCount_95d88 24 = .ok (.lload_n 0, 1) := by decide +kernel
theorem dJ13_bitCount_95d88_25 : decode cJ13_bitCount_95d88 25 = .ok (.lload_n 0, 1) := by decide +kernel
theorem dJ13_bitCount_95d88_26 : decode cJ13_bitCount_95d88 26 = .ok (.iconst 4, 1) := by decide +kernel
theorem dJ13_bitCount_95d88_27 : decode cJ13_bitCount_95d88 27 = .ok (.lushr, 1) := by decide +kernel
theorem dJ13_bitCount_95d88_28 : decode cJ13_bitCount_95d88 28 = .ok (.ladd, 1) := by decide +kernel
theorem dJ13_bitCount_95d88_29 : decode cJ13_bitCount_95d88 29 = .ok (.ldc2_w 318, 3) := by decide +kernel
theorem dJ13_bitCount_95d88_32 : decode cJ13_bitCount_95d88 32 = .ok (.land, 1) := by decide +kernel
theorem dJ13_bitCount_95d88_33 : decode cJ13_bitCount_95d88 33 = .ok (.lstore_n 0, 1) := by decide +kernel
theorem dJ13_bitCount_95d88_34 : decode cJ13_bitCount_95d88 34 = .ok (.lload_n 0, 1) := by decide +kernel
theorem dJ13_bitCount_95d88_35 : decode cJ13_bitCount_95d88 35 = .ok (.lload_n 0, 1) := by decide +kernel
theorem dJ13_bitCount_95d88_36 : decode cJ13_bitCount_95d88 36 = .ok (.bipush 8, 2) := by decide +kernel
theorem dJ13_bitCount_95d88_38 : decode cJ13_bitCount_95d88 38 = .ok (.lushr, 1) := by decide +kernel
theorem dJ13_bitCount_95d88_39 : decode cJ13_bitCount_95d88 39 = .ok (.ladd, 1) := by decide +kernel
theorem dJ13_bitCount_95d88_40 : decode cJ13_bitCount_95d88 40 = .ok (.lstore_n 0, 1) := by decide +kernel
theorem dJ13_bitCount_95d88_41 : decode cJ13_bitCount_95d88 41 = .ok (.lload_n 0, 1) := by decide +kernel
theorem dJ13_bitCount_95d88_42 : decode cJ13_bitCount_95d88 42 = .ok (.lload_n 0, 1) := by decide +kernel
theorem dJ13_bitCount_95d88_43 : decode cJ13_bitCount_95d88 43 = .ok (.bipush 16, 2) := by decide +kernel
theorem dJ13_bitCount_95d88_45 : decode cJ13_bitCount_95d88 45 = .ok (.lushr, 1) := by decide +kernel
theorem dJ13_bitCount_95d88_46 : decode cJ13_bitCount_95d88 46 = .ok (.ladd, 1) := by decide +kernel
theorem dJ13_bitCount_95d88_47 : decode cJ13_bitCount_95d88 47 = .ok (.lstore_n 0, 1) := by decide +kernel
theorem dJ13_bitCount_95d88_48 : decode cJ13_bitCount_95d88 48 = .ok (.lload_n 0, 1) := by decide +kernel
theorem dJ13_bitCount_95d88_49 : decode cJ13_bitCount_95d88 49 = .ok (.lload_n 0, 1) := by decide +kernel
theorem dJ13_bitCount_95d88_50 : decode cJ13_bitCount_95d88 50 = .ok (.bipush 32, 2) := by decide +kernel
theorem dJ13_bitCount_95d88_52 : decode cJ13_bitCount_95d88 52 = .ok (.lushr, 1) := by decide +kernel
theorem dJ13_bitCount_95d88_53 : decode cJ13_bitCount_95d88 53 = .ok (.ladd, 1) := by decide +kernel
theorem dJ13_bitCount_95d88_54 : decode cJ13_bitCount_95d88 54 = .ok (.lstore_n 0, 1) := by decide +kernel
theorem dJ13_bitCount_95d88_55 : decode cJ13_bitCount_95d88 55 = .ok (.lload_n 0, 1) := by decide +kernel
theorem dJ13_bitCount_95d88_56 : decode cJ13_bitCount_95d88 56 = .ok (.l2i, 1) := by decide +kernel
theorem dJ13_bitCount_95d88_57 : decode cJ13_bitCount_95d88 57 = .ok (.bipush 127, 2) := by decide +kernel
theorem dJ13_bitCount_95d88_59 : decode cJ13_bitCount_95d88 59 = .ok (.iand, 1) := by decide +kernel
theorem dJ13_bitCount_95d88_60 : decode cJ13_bitCount_95d88 60 = .ok (.ireturn, 1) := by decide +kernel
theorem dJ9_max_7cf53_0 : decode cJ9_max_7cf53 0 = .ok (.iload_n 0, 1) := by decide +kernel
theorem dJ9_max_7cf53_1 : decode cJ9_max_7cf53 1 = .ok (.iload_n 1, 1) := by decide +kernel
theorem dJ9_max_7cf53_2 : decode cJ9_max_7cf53 2 = .ok (.if_icmp .lt 7, 3) := by decide +kernel
theorem dJ9_max_7cf53_5 : decode cJ9_max_7cf53 5 = .ok (.iload_n 0, 1) := by decide +kernel
theorem dJ9_max_7cf53_6 : decode cJ9_max_7cf53 6 = .ok (.goto 4, 3) := by decide +kernel
theorem dJ9_max_7cf53_9 : decode cJ9_max_7cf53 9 = .ok (.iload_n 1, 1) := by decide +kernel
theorem dJ9_max_7cf53_10 : decode cJ9_max_7cf53 10 = .ok (.ireturn, 1) := by decide +kernel
theorem dJ7_fill_53178_0 : decode cJ7_fill_53178 0 = .ok (.iconst 0, 1) := by decide +kernel
theorem dJ7_fill_53178_1 : decode cJ7_fill_53178 1 = .ok (.istore_n 2, 1) := by decide +kernel
theorem dJ7_fill_53178_2 : decode cJ7_fill_53178 2 = .ok (.aload_n 0, 1) := by decide +kernel
theorem dJ7_fill_53178_3 : decode cJ7_fill_53178 3 = .ok (.arraylength, 1) := by decide +kernel
theorem dJ7_fill_53178_4 : decode cJ7_fill_53178 4 = .ok (.istore_n 3, 1) := by decide +kernel
theorem dJ7_fill_53178_5 : decode cJ7_fill_53178 5 = .ok (.iload_n 2, 1) := by decide +kernel
theorem dJ7_fill_53178_6 : decode cJ7_fill_53178 6 = .ok (.iload_n 3, 1) := by decide +kernel
theorem dJ7_fill_53178_7 : decode cJ7_fill_53178 7 = .ok (.if_icmp .ge 13, 3) := by decide +kernel
theorem dJ7_fill_53178_10 : decode cJ7_fill_53178 10 = .ok (.aload_n 0, 1) := by decide +kernel
theorem dJ7_fill_53178_11 : decode cJ7_fill_53178 11 = .ok (.iload_n 2, 1) := by decide +kernel
theorem dJ7_fill_53178_12 : decode cJ7_fill_53178 12 = .ok (.iload_n 1, 1) := by decide +kernel
theorem dJ7_fill_53178_13 : decode cJ7_fill_53178 13 = .ok (.iastore, 1) := by decide +kernel
theorem dJ7_fill_53178_14 : decode cJ7_fill_53178 14 = .ok (.iinc 2 1, 3) := by decide +kernel
theorem dJ7_fill_53178_17 : decode cJ7_fill_53178 17 = .ok (.goto (-12), 3) := by decide +kernel
theorem dJ7_fill_53178_20 : decode cJ7_fill_53178 20 = .ok (.return_, 1) := by decide +kernel
set_option maxRecDepth 20000 in
theorem ggL_play_X2_play : GoodIn wsL_play wsX2_play := goodIn_ca (goodIn_ca (goodIn_r _ [7, 8, 9, 10, 11, 12, 13, 14, 15, 16, 17, 6, 18, 19, 20, 21, 22, 23, 24, 25, 26, 27, 28, 29, 30, 31, 32, 33, 34, 35, 36, 37, 38, 39, 40, 41, 42, 43, 44, 45, 46, 47, 48, 49, 50, 51, 52, 53, 54, 55, 56, 57, 58, 59, 60, 61, 62, 63, 64, 65, 66, 67, 68, 69, 70, 71, 72, 73, 74, 75, 76, 77, 78, 79, 80, 81, 82, 83, 84, 85, 86, 87, 88, 89, 90, 91, 92, 93, 94, 95, 96, 97, 98, 99, 100, 101, 102, 103, 104, 105] (by decide +kernel) (by decide +kernel)) (goodIn_sub (fun _ h => List.mem_cons_of_mem _ (List.mem_append_left _ (List.mem_append_right _ h))) (by decide +kernel))) (goodIn_sub (fun _ h => List.mem_cons_of_mem _ (List.mem_append_right _ h)) (by decide +kernel))
set_option maxRecDepth 20000 in
theorem gL_play_X2_play : GoodIn wsL_play (wsV RL 7 RX2 yX2_play wsX2_play) := goodIn_app (goodIn_of _ (by decide +kernel)) ggL_play_X2_play
theorem dL_play_0 : decode cL_play 0 = .ok (.aload_n 2, 1) := by decide +kernel
theorem dL_play_1 : decode cL_play 1 = .ok (.iconst 0, 1) := by decide +kernel
theorem dL_play_2 : decode cL_play 2 = .ok (.aload_n 0, 1) := by decide +kernel
theorem dL_play_3 : decode cL_play 3 = .ok (.iload_n 1, 1) := by decide +kernel
theorem dL_play_4 : decode cL_play 4 = .ok (.invokevirtual 7, 3) := by decide +kernel
theorem dL_play_7 : decode cL_play 7 = .ok (.i2l, 1) := by decide +kernel
theorem dL_play_8 : decode cL_play 8 = .ok (.lastore, 1) := by decide +kernel
theorem dL_play_9 : decode cL_play 9 = .ok (.goto 9, 3) := by decide +kernel
theorem dL_play_12 : decode cL_play 12 = .ok (.astore_n 3, 1) := by decide +kernel
theorem dL_play_13 : decode cL_play 13 = .ok (.iconst 1, 1) := by decide +kernel
theorem dL_play_14 : decode cL_play 14 = .ok (.ireturn, 1) := by decide +kernel
theorem dL_play_15 : decode cL_play 15 = .ok (.astore_n 3, 1) := by decide +kernel
theorem dL_play_16 : decode cL_play 16 = .ok (.iconst 2, 1) := by decide +kernel
theorem dL_play_17 : decode cL_play 17 = .ok (.ireturn, 1) := by decide +kernel
theorem dL_play_18 : decode cL_play 18 = .ok (.iconst 0, 1) := by decide +kernel
theorem dL_play_19 : decode cL_play 19 = .ok (.ireturn, 1) := by decide +kernel
set_option maxRecDepth 20000 in
theorem ggL_putOnGloves_X2_putOnGloves : GoodIn wsL_putOnGloves wsX2_putOnGloves := goodIn_ca (goodIn_r _ [6, 7, 8, 9, 10, 11, 12, 13, 5, 14, 15, 16, 17, 18, 19, 20, 21, 22, 23, 24, 25, 26, 27, 28, 29, 30, 31, 32] (by decide +kernel) (by decide +kernel)) (goodIn_sub (fun _ h => List.mem_cons_of_mem _ (List.mem_append_right _ h)) (by decide +kernel))
set_option maxRecDepth 20000 in
theorem gL_putOnGloves_X2_putOnGloves : GoodIn wsL_putOnGloves (wsV RL 17 RX2 yX2_putOnGloves wsX2_putOnGloves) := goodIn_app (goodIn_of _ (by decide +kernel)) ggL_putOnGloves_X2_putOnGloves
theorem dL_putOnGloves_0 : decode cL_putOnGloves 0 = .ok (.aload_n 1, 1) := by decide +kernel
theorem dL_putOnGloves_1 : decode cL_putOnGloves 1 = .ok (.iconst 0, 1) := by decide +kernel
theorem dL_putOnGloves_2 : decode cL_putOnGloves 2 = .ok (.aload_n 0, 1) := by decide +kernel
theorem dL_putOnGloves_3 : decode cL_putOnGloves 3 = .ok (.invokevirtual 17, 3) := by decide +kernel
theorem dL_putOnGloves_6 : decode cL_putOnGloves 6 = .ok (.i2l, 1) := by decide +kernel
theorem dL_putOnGloves_7 : decode cL_putOnGloves 7 = .ok (.lastore, 1) := by decide +kernel
theorem dL_putOnGloves_8 : decode cL_putOnGloves 8 = .ok (.goto 6, 3) := by decide +kernel
theorem dL_putOnGloves_11 : decode cL_putOnGloves 11 = .ok (.astore_n 2, 1) := by decide +kernel
theorem dL_putOnGloves_12 : decode cL_putOnGloves 12 = .ok (.iconst 1, 1) := by decide +kernel
theorem dL_putOnGloves_13 : decode cL_putOnGloves 13 = .ok (.ireturn, 1) := by decide +kernel
theorem dL_putOnGloves_14 : decode cL_putOnGloves 14 = .ok (.iconst 0, 1) := by decide +kernel
theorem dL_putOnGloves_15 : decode cL_putOnGloves 15 = .ok (.ireturn, 1) := by decide +kernel
set_option maxRecDepth 20000 in
theorem ggL_whyNot_X2_whyNot : GoodIn wsL_whyNot wsX2_whyNot := goodIn_ca (goodIn_r _ [6, 7, 8, 9, 10, 5, 11, 12, 13, 14, 15, 16, 17, 18, 19, 20, 21, 22, 23, 24, 25, 26, 27, 28, 29, 30, 31, 32, 33, 34, 35, 36, 37, 38, 39, 40, 41, 42, 43, 44, 45, 46, 47, 48, 49, 50, 51, 52, 53, 54, 55, 56, 57, 58, 59, 60, 61, 62, 63, 64, 65, 66] (by decide +kernel) (by decide +kernel)) (goodIn_sub (fun _ h => List.mem_cons_of_mem _ (List.mem_append_right _ h)) (by decide +kernel))
set_option maxRecDepth 20000 in
theorem gL_whyNot_X2_whyNot : GoodIn wsL_whyNot (wsV RL 21 RX2 yX2_whyNot wsX2_whyNot) := goodIn_app (goodIn_of _ (by decide +kernel)) ggL_whyNot_X2_whyNot
theorem dL_whyNot_0 : decode cL_whyNot 0 = .ok (.aload_n 2, 1) := by decide +kernel
theorem dL_whyNot_1 : decode cL_whyNot 1 = .ok (.iconst 0, 1) := by decide +kernel
theorem dL_whyNot_2 : decode cL_whyNot 2 = .ok (.aload_n 0, 1) := by decide +kernel
theorem dL_whyNot_3 : decode cL_whyNot 3 = .ok (.iload_n 1, 1) := by decide +kernel
theorem dL_whyNot_4 : decode cL_whyNot 4 = .ok (.invokevirtual 21, 3) := by decide +kernel
theorem dL_whyNot_7 : decode cL_whyNot 7 = .ok (.i2l, 1) := by decide +kernel
theorem dL_whyNot_8 : decode cL_whyNot 8 = .ok (.lastore, 1) := by decide +kernel
theorem dL_whyNot_9 : decode cL_whyNot 9 = .ok (.goto 6, 3) := by decide +kernel
theorem dL_whyNot_12 : decode cL_whyNot 12 = .ok (.astore_n 3, 1) := by decide +kernel
theorem dL_whyNot_13 : decode cL_whyNot 13 = .ok (.iconst 1, 1) := by decide +kernel
theorem dL_whyNot_14 : decode cL_whyNot 14 = .ok (.ireturn, 1) := by decide +kernel
theorem dL_whyNot_15 : decode cL_whyNot 15 = .ok (.iconst 0, 1) := by decide +kernel
theorem dL_whyNot_16 : decode cL_whyNot 16 = .ok (.ireturn, 1) := by decide +kernel
set_option maxRecDepth 20000 in
theorem ggL_cards_X2_cards : GoodIn wsL_cards wsX2_cards := goodIn_ca (goodIn_r _ [6, 7, 8, 9, 10, 11, 5, 12, 13, 14, 15, 16, 17, 18, 19, 20, 21, 22, 23, 24, 25, 26, 27, 28, 29, 30, 31, 32, 33, 34, 35, 36, 37, 38, 39, 40, 41] (by decide +kernel) (by decide +kernel)) (goodIn_sub (fun _ h => List.mem_cons_of_mem _ (List.mem_append_right _ h)) (by decide +kernel))
set_option maxRecDepth 20000 in
theorem gL_cards_X2_cards : GoodIn wsL_cards (wsV RL 24 RX2 yX2_cards wsX2_cards) := goodIn_app (goodIn_of _ (by decide +kernel)) ggL_cards_X2_cards
theorem dL_cards_0 : decode cL_cards 0 = .ok (.aload_n 2, 1) := by decide +kernel
theorem dL_cards_1 : decode cL_cards 1 = .ok (.iconst 0, 1) := by decide +kernel
theorem dL_cards_2 : decode cL_cards 2 = .ok (.aload_n 0, 1) := by decide +kernel
theorem dL_cards_3 : decode cL_cards 3 = .ok (.iload_n 1, 1) := by decide +kernel
theorem dL_cards_4 : decode cL_cards 4 = .ok (.invokevirtual 24, 3) := by decide +kernel
theorem dL_cards_7 : decode cL_cards 7 = .ok (.i2l, 1) := by decide +kernel
theorem dL_cards_8 : decode cL_cards 8 = .ok (.lastore, 1) := by decide +kernel
theorem dL_cards_9 : decode cL_cards 9 = .ok (.goto 6, 3) := by decide +kernel
theorem dL_cards_12 : decode cL_cards 12 = .ok (.astore_n 3, 1) := by decide +kernel
theorem dL_cards_13 : decode cL_cards 13 = .ok (.iconst 1, 1) := by decide +kernel
theorem dL_cards_14 : decode cL_cards 14 = .ok (.ireturn, 1) := by decide +kernel
theorem dL_cards_15 : decode cL_cards 15 = .ok (.iconst 0, 1) := by decide +kernel
theorem dL_cards_16 : decode cL_cards 16 = .ok (.ireturn, 1) := by decide +kernel
set_option maxRecDepth 20000 in
theorem ggL_cardAt_X2_cardAt : GoodIn wsL_cardAt wsX2_cardAt := goodIn_ca (goodIn_r _ [6, 7, 8, 9, 10, 11, 5, 12, 13, 14, 15, 16, 17, 18, 19, 20, 21, 22, 23, 24, 25, 26, 27, 28, 29, 30, 31, 32, 33, 34, 35, 36, 37, 38, 39, 40] (by decide +kernel) (by decide +kernel)) (goodIn_sub (fun _ h => List.mem_cons_of_mem _ (List.mem_append_right _ h)) (by decide +kernel))
set_option maxRecDepth 20000 in
theorem gL_cardAt_X2_cardAt : GoodIn wsL_cardAt (wsV RL 29 RX2 yX2_cardAt wsX2_cardAt) := goodIn_app (goodIn_of _ (by decide +kernel)) ggL_cardAt_X2_cardAt
theorem dL_cardAt_0 : decode cL_cardAt 0 = .ok (.aload_n 3, 1) := by decide +kernel
theorem dL_cardAt_1 : decode cL_cardAt 1 = .ok (.iconst 0, 1) := by decide +kernel
theorem dL_cardAt_2 : decode cL_cardAt 2 = .ok (.aload_n 0, 1) := by decide +kernel
theorem dL_cardAt_3 : decode cL_cardAt 3 = .ok (.iload_n 1, 1) := by decide +kernel
theorem dL_cardAt_4 : decode cL_cardAt 4 = .ok (.iload_n 2, 1) := by decide +kernel
theorem dL_cardAt_5 : decode cL_cardAt 5 = .ok (.invokevirtual 29, 3) := by decide +kernel
theorem dL_cardAt_8 : decode cL_cardAt 8 = .ok (.i2l, 1) := by decide +kernel
theorem dL_cardAt_9 : decode cL_cardAt 9 = .ok (.lastore, 1) := by decide +kernel
theorem dL_cardAt_10 : decode cL_cardAt 10 = .ok (.goto 7, 3) := by decide +kernel
theorem dL_cardAt_13 : decode cL_cardAt 13 = .ok (.astore 4, 2) := by decide +kernel
theorem dL_cardAt_15 : decode cL_cardAt 15 = .ok (.iconst 1, 1) := by decide +kernel
theorem dL_cardAt_16 : decode cL_cardAt 16 = .ok (.ireturn, 1) := by decide +kernel
theorem dL_cardAt_17 : decode cL_cardAt 17 = .ok (.iconst 0, 1) := by decide +kernel
theorem dL_cardAt_18 : decode cL_cardAt 18 = .ok (.ireturn, 1) := by decide +kernel
set_option maxRecDepth 20000 in
theorem ggL_placeOf_X2_placeOf : GoodIn wsL_placeOf wsX2_placeOf := goodIn_ca (goodIn_r _ [6, 7, 8, 9, 10, 11, 12, 13, 14, 15, 16, 5, 17, 18, 19, 20, 21, 22, 23, 24, 25, 26, 27, 28, 29, 30, 31, 32, 33, 34, 35, 36, 37, 38, 39] (by decide +kernel) (by decide +kernel)) (goodIn_sub (fun _ h => List.mem_cons_of_mem _ (List.mem_append_right _ h)) (by decide +kernel))
set_option maxRecDepth 20000 in
theorem gL_placeOf_X2_placeOf : GoodIn wsL_placeOf (wsV RL 33 RX2 yX2_placeOf wsX2_placeOf) := goodIn_app (goodIn_of _ (by decide +kernel)) ggL_placeOf_X2_placeOf
theorem dL_placeOf_0 : decode cL_placeOf 0 = .ok (.aload_n 2, 1) := by decide +kernel
theorem dL_placeOf_1 : decode cL_placeOf 1 = .ok (.iconst 0, 1) := by decide +kernel
theorem dL_placeOf_2 : decode cL_placeOf 2 = .ok (.aload_n 0, 1) := by decide +kernel
theorem dL_placeOf_3 : decode cL_placeOf 3 = .ok (.iload_n 1, 1) := by decide +kernel
theorem dL_placeOf_4 : decode cL_placeOf 4 = .ok (.invokevirtual 33, 3) := by decide +kernel
theorem dL_placeOf_7 : decode cL_placeOf 7 = .ok (.i2l, 1) := by decide +kernel
theorem dL_placeOf_8 : decode cL_placeOf 8 = .ok (.lastore, 1) := by decide +kernel
theorem dL_placeOf_9 : decode cL_placeOf 9 = .ok (.goto 6, 3) := by decide +kernel
theorem dL_placeOf_12 : decode cL_placeOf 12 = .ok (.astore_n 3, 1) := by decide +kernel
theorem dL_placeOf_13 : decode cL_placeOf 13 = .ok (.iconst 1, 1) := by decide +kernel
theorem dL_placeOf_14 : decode cL_placeOf 14 = .ok (.ireturn, 1) := by decide +kernel
theorem dL_placeOf_15 : decode cL_placeOf 15 = .ok (.iconst 0, 1) := by decide +kernel
theorem dL_placeOf_16 : decode cL_placeOf 16 = .ok (.ireturn, 1) := by decide +kernel
set_option maxRecDepth 20000 in
theorem ggL_points_X2_points : GoodIn wsL_points wsX2_points := goodIn_ca (goodIn_r _ [6, 7, 8, 9, 10, 11, 5, 12, 13, 14, 15, 16, 17, 18, 19, 20, 21, 22, 23, 24, 25, 26, 27, 28, 29, 30, 31, 32, 33, 34] (by decide +kernel) (by decide +kernel)) (goodIn_sub (fun _ h => List.mem_cons_of_mem _ (List.mem_append_right _ h)) (by decide +kernel))
set_option maxRecDepth 20000 in
theorem gL_points_X2_points : GoodIn wsL_points (wsV RL 36 RX2 yX2_points wsX2_points) := goodIn_app (goodIn_of _ (by decide +kernel)) ggL_points_X2_points
theorem dL_points_0 : decode cL_points 0 = .ok (.aload_n 2, 1) := by decide +kernel
theorem dL_points_1 : decode cL_points 1 = .ok (.iconst 0, 1) := by decide +kernel
theorem dL_points_2 : decode cL_points 2 = .ok (.aload_n 0, 1) := by decide +kernel
theorem dL_points_3 : decode cL_points 3 = .ok (.iload_n 1, 1) := by decide +kernel
theorem dL_points_4 : decode cL_points 4 = .ok (.invokevirtual 36, 3) := by decide +kernel
theorem dL_points_7 : decode cL_points 7 = .ok (.i2l, 1) := by decide +kernel
theorem dL_points_8 : decode cL_points 8 = .ok (.lastore, 1) := by decide +kernel
theorem dL_points_9 : decode cL_points 9 = .ok (.goto 6, 3) := by decide +kernel
theorem dL_points_12 : decode cL_points 12 = .ok (.astore_n 3, 1) := by decide +kernel
theorem dL_points_13 : decode cL_points 13 = .ok (.iconst 1, 1) := by decide +kernel
theorem dL_points_14 : decode cL_points 14 = .ok (.ireturn, 1) := by decide +kernel
theorem dL_points_15 : decode cL_points 15 = .ok (.iconst 0, 1) := by decide +kernel
theorem dL_points_16 : decode cL_points 16 = .ok (.ireturn, 1) := by decide +kernel
set_option maxRecDepth 20000 in
theorem ggL_tricks_X2_tricks : GoodIn wsL_tricks wsX2_tricks := goodIn_ca (goodIn_r _ [6, 7, 8, 9, 10, 11, 5, 12, 13, 14, 15, 16, 17, 18, 19, 20, 21, 22, 23, 24, 25, 26, 27, 28, 29, 30, 31, 32, 33, 34] (by decide +kernel) (by decide +kernel)) (goodIn_sub (fun _ h => List.mem_cons_of_mem _ (List.mem_append_right _ h)) (by decide +kernel))
set_option maxRecDepth 20000 in
theorem gL_tricks_X2_tricks : GoodIn wsL_tricks (wsV RL 39 RX2 yX2_tricks wsX2_tricks) := goodIn_app (goodIn_of _ (by decide +kernel)) ggL_tricks_X2_tricks
theorem dL_tricks_0 : decode cL_tricks 0 = .ok (.aload_n 2, 1) := by decide +kernel
theorem dL_tricks_1 : decode cL_tricks 1 = .ok (.iconst 0, 1) := by decide +kernel
theorem dL_tricks_2 : decode cL_tricks 2 = .ok (.aload_n 0, 1) := by decide +kernel
theorem dL_tricks_3 : decode cL_tricks 3 = .ok (.iload_n 1, 1) := by decide +kernel
theorem dL_tricks_4 : decode cL_tricks 4 = .ok (.invokevirtual 39, 3) := by decide +kernel
theorem dL_tricks_7 : decode cL_tricks 7 = .ok (.i2l, 1) := by decide +kernel
theorem dL_tricks_8 : decode cL_tricks 8 = .ok (.lastore, 1) := by decide +kernel
theorem dL_tricks_9 : decode cL_tricks 9 = .ok (.goto 6, 3) := by decide +kernel
theorem dL_tricks_12 : decode cL_tricks 12 = .ok (.astore_n 3, 1) := by decide +kernel
theorem dL_tricks_13 : decode cL_tricks 13 = .ok (.iconst 1, 1) := by decide +kernel
theorem dL_tricks_14 : decode cL_tricks 14 = .ok (.ireturn, 1) := by decide +kernel
theorem dL_tricks_15 : decode cL_tricks 15 = .ok (.iconst 0, 1) := by decide +kernel
theorem dL_tricks_16 : decode cL_tricks 16 = .ok (.ireturn, 1) := by decide +kernel
set_option maxRecDepth 20000 in
theorem ggL_gloves_X2_gloves : GoodIn wsL_gloves wsX2_gloves := goodIn_ca (goodIn_r _ [6, 7, 8, 9, 10, 11, 5, 12, 13, 14, 15, 16, 17, 18, 19, 20, 21, 22, 23, 24, 25, 26, 27, 28, 29, 30, 31, 32, 33, 34] (by decide +kernel) (by decide +kernel)) (goodIn_sub (fun _ h => List.mem_cons_of_mem _ (List.mem_append_right _ h)) (by decide +kernel))
set_option maxRecDepth 20000 in
theorem gL_gloves_X2_gloves : GoodIn wsL_gloves (wsV RL 42 RX2 yX2_gloves wsX2_gloves) := goodIn_app (goodIn_of _ (by decide +kernel)) ggL_gloves_X2_gloves
theorem dL_gloves_0 : decode cL_gloves 0 = .ok (.aload_n 2, 1) := by decide +kernel
theorem dL_gloves_1 : decode cL_gloves 1 = .ok (.iconst 0, 1) := by decide +kernel
theorem dL_gloves_2 : decode cL_gloves 2 = .ok (.aload_n 0, 1) := by decide +kernel
theorem dL_gloves_3 : decode cL_gloves 3 = .ok (.iload_n 1, 1) := by decide +kernel
theorem dL_gloves_4 : decode cL_gloves 4 = .ok (.invokevirtual 42, 3) := by decide +kernel
theorem dL_gloves_7 : decode cL_gloves 7 = .ok (.i2l, 1) := by decide +kernel
theorem dL_gloves_8 : decode cL_gloves 8 = .ok (.lastore, 1) := by decide +kernel
theorem dL_gloves_9 : decode cL_gloves 9 = .ok (.goto 6, 3) := by decide +kernel
theorem dL_gloves_12 : decode cL_gloves 12 = .ok (.astore_n 3, 1) := by decide +kernel
theorem dL_gloves_13 : decode cL_gloves 13 = .ok (.iconst 1, 1) := by decide +kernel
theorem dL_gloves_14 : decode cL_gloves 14 = .ok (.ireturn, 1) := by decide +kernel
theorem dL_gloves_15 : decode cL_gloves 15 = .ok (.iconst 0, 1) := by decide +kernel
theorem dL_gloves_16 : decode cL_gloves 16 = .ok (.ireturn, 1) := by decide +kernel
set_option maxRecDepth 20000 in
theorem ggL_wouldTake_X2_wouldTake : GoodIn wsL_wouldTake wsX2_wouldTake := goodIn_ca (goodIn_ca (goodIn_r _ [7, 8, 9, 10, 11, 12, 13, 14, 6, 15, 16, 17, 18, 19, 20, 21, 22, 23, 24, 25, 26, 27, 28, 29, 30, 31, 32, 33, 34, 35, 36, 37, 38] (by decide +kernel) (by decide +kernel)) (goodIn_sub (fun _ h => List.mem_cons_of_mem _ (List.mem_append_left _ (List.mem_append_right _ h))) (by decide +kernel))) (goodIn_sub (fun _ h => List.mem_cons_of_mem _ (List.mem_append_right _ h)) (by decide +kernel))
set_option maxRecDepth 20000 in
theorem gL_wouldTake_X2_wouldTake : GoodIn wsL_wouldTake (wsV RL 45 RX2 yX2_wouldTake wsX2_wouldTake) := goodIn_app (goodIn_of _ (by decide +kernel)) ggL_wouldTake_X2_wouldTake
theorem dL_wouldTake_0 : decode cL_wouldTake 0 = .ok (.aload_n 2, 1) := by decide +kernel
theorem dL_wouldTake_1 : decode cL_wouldTake 1 = .ok (.iconst 0, 1) := by decide +kernel
theorem dL_wouldTake_2 : decode cL_wouldTake 2 = .ok (.aload_n 0, 1) := by decide +kernel
theorem dL_wouldTake_3 : decode cL_wouldTake 3 = .ok (.iload_n 1, 1) := by decide +kernel
theorem dL_wouldTake_4 : decode cL_wouldTake 4 = .ok (.invokevirtual 45, 3) := by decide +kernel
theorem dL_wouldTake_7 : decode cL_wouldTake 7 = .ok (.i2l, 1) := by decide +kernel
theorem dL_wouldTake_8 : decode cL_wouldTake 8 = .ok (.lastore, 1) := by decide +kernel
theorem dL_wouldTake_9 : decode cL_wouldTake 9 = .ok (.goto 9, 3) := by decide +kernel
theorem dL_wouldTake_12 : decode cL_wouldTake 12 = .ok (.astore_n 3, 1) := by decide +kernel
theorem dL_wouldTake_13 : decode cL_wouldTake 13 = .ok (.iconst 1, 1) := by decide +kernel
theorem dL_wouldTake_14 : decode cL_wouldTake 14 = .ok (.ireturn, 1) := by decide +kernel
theorem dL_wouldTake_15 : decode cL_wouldTake 15 = .ok (.astore_n 3, 1) := by decide +kernel
theorem dL_wouldTake_16 : decode cL_wouldTake 16 = .ok (.iconst 2, 1) := by decide +kernel
theorem dL_wouldTake_17 : decode cL_wouldTake 17 = .ok (.ireturn, 1) := by decide +kernel
theorem dL_wouldTake_18 : decode cL_wouldTake 18 = .ok (.iconst 0, 1) := by decide +kernel
theorem dL_wouldTake_19 : decode cL_wouldTake 19 = .ok (.ireturn, 1) := by decide +kernel
set_option maxRecDepth 20000 in
theorem ggL_best_X2_best : GoodIn wsL_best wsX2_best := goodIn_ca (goodIn_r _ [6, 7, 8, 9, 10, 11, 12, 13, 5, 14, 15, 16, 17, 18, 19, 20, 21, 22, 23, 24, 25, 26, 27, 28, 29, 30, 31, 32, 33, 34, 35, 36, 37, 38, 39, 40, 41, 42, 43, 44, 45, 46, 47, 48, 49, 50, 51, 52, 53, 54, 55, 56, 57, 58, 59, 60, 61, 62, 63, 64, 65, 66, 67, 68, 69, 70, 71, 72, 73, 74, 75, 76, 77, 78, 79, 80, 81, 82, 83, 84, 85, 86, 87, 88, 89, 90, 91, 92, 93, 94, 95, 96, 97, 98, 99, 100, 101, 102, 103, 104, 105, 106, 107, 108, 109, 110, 111, 112, 113, 114, 115, 116, 117, 118, 119, 120, 121, 122, 123, 124, 125, 126, 127, 128, 129, 130, 131, 132, 133, 134, 135, 136, 137, 138, 139, 140] (by decide +kernel) (by decide +kernel)) (goodIn_sub (fun _ h => List.mem_cons_of_mem _ (List.mem_append_right _ h)) (by decide +kernel))
set_option maxRecDepth 20000 in
theorem gL_best_X2_best : GoodIn wsL_best (wsV RL 48 RX2 yX2_best wsX2_best) := goodIn_app (goodIn_of _ (by decide +kernel)) ggL_best_X2_best
theorem dL_best_0 : decode cL_best 0 = .ok (.aload_n 1, 1) := by decide +kernel
theorem dL_best_1 : decode cL_best 1 = .ok (.iconst 0, 1) := by decide +kernel
theorem dL_best_2 : decode cL_best 2 = .ok (.aload_n 0, 1) := by decide +kernel
theorem dL_best_3 : decode cL_best 3 = .ok (.invokevirtual 48, 3) := by decide +kernel
theorem dL_best_6 : decode cL_best 6 = .ok (.i2l, 1) := by decide +kernel
theorem dL_best_7 : decode cL_best 7 = .ok (.lastore, 1) := by decide +kernel
theorem dL_best_8 : decode cL_best 8 = .ok (.goto 6, 3) := by decide +kernel
theorem dL_best_11 : decode cL_best 11 = .ok (.astore_n 2, 1) := by decide +kernel
theorem dL_best_12 : decode cL_best 12 = .ok (.iconst 1, 1) := by decide +kernel
theorem dL_best_13 : decode cL_best 13 = .ok (.ireturn, 1) := by decide +kernel
theorem dL_best_14 : decode cL_best 14 = .ok (.iconst 0, 1) := by decide +kernel
theorem dL_best_15 : decode cL_best 15 = .ok (.ireturn, 1) := by decide +kernel
set_option maxRecDepth 20000 in
theorem ggL_bestCard_X2_bestCard : GoodIn wsL_bestCard wsX2_bestCard := goodIn_ca (goodIn_r _ [6, 7, 8, 9, 10, 11, 12, 13, 5, 14, 15, 16, 17, 18, 19, 20, 21, 22, 23, 24, 25, 26, 27, 28, 29, 30, 31, 32, 33, 34, 35, 36, 37, 38, 39, 40, 41, 42, 43, 44, 45, 46, 47, 48, 49, 50, 51, 52, 53, 54, 55, 56, 57, 58, 59, 60, 61, 62, 63, 64, 65, 66, 67, 68, 69, 70, 71, 72, 73, 74, 75, 76, 77, 78, 79, 80, 81, 82, 83, 84, 85, 86, 87, 88, 89, 90, 91, 92, 93, 94, 95, 96, 97, 98, 99, 100, 101, 102, 103, 104, 105, 106, 107, 108, 109, 110, 111, 112, 113, 114, 115, 116, 117, 118, 119, 120, 121, 122, 123, 124, 125, 126, 127, 128, 129, 130, 131, 132, 133, 134, 135, 136, 137, 138, 139, 140] (by decide +kernel) (by decide +kernel)) (goodIn_sub (fun _ h => List.mem_cons_of_mem _ (List.mem_append_right _ h)) (by decide +kernel))
set_option maxRecDepth 20000 in
theorem gL_bestCard_X2_bestCard : GoodIn wsL_bestCard (wsV RL 51 RX2 yX2_bestCard wsX2_bestCard) := goodIn_app (goodIn_of _ (by decide +kernel)) ggL_bestCard_X2_bestCard
theorem dL_bestCard_0 : decode cL_bestCard 0 = .ok (.aload_n 1, 1) := by decide +kernel
theorem dL_bestCard_1 : decode cL_bestCard 1 = .ok (.iconst 0, 1) := by decide +kernel
theorem dL_bestCard_2 : decode cL_bestCard 2 = .ok (.aload_n 0, 1) := by decide +kernel
theorem dL_bestCard_3 : decode cL_bestCard 3 = .ok (.invokevirtual 51, 3) := by decide +kernel
theorem dL_bestCard_6 : decode cL_bestCard 6 = .ok (.i2l, 1) := by decide +kernel
theorem dL_bestCard_7 : decode cL_bestCard 7 = .ok (.lastore, 1) := by decide +kernel
theorem dL_bestCard_8 : decode cL_bestCard 8 = .ok (.goto 6, 3) := by decide +kernel
theorem dL_bestCard_11 : decode cL_bestCard 11 = .ok (.astore_n 2, 1) := by decide +kernel
theorem dL_bestCard_12 : decode cL_bestCard 12 = .ok (.iconst 1, 1) := by decide +kernel
theorem dL_bestCard_13 : decode cL_bestCard 13 = .ok (.ireturn, 1) := by decide +kernel
theorem dL_bestCard_14 : decode cL_bestCard 14 = .ok (.iconst 0, 1) := by decide +kernel
theorem dL_bestCard_15 : decode cL_bestCard 15 = .ok (.ireturn, 1) := by decide +kernel
set_option maxRecDepth 20000 in
theorem ggL_law_X2_init : GoodIn wsL_law wsX2_init := goodIn_r _ [10, 11, 12, 13, 14, 15, 16, 17, 18, 19, 20, 21, 22, 23, 24, 25, 26, 27, 28, 29, 30, 31, 32, 33, 34, 35, 36, 557, 558, 559, 560, 561, 562, 563, 564, 565, 566, 567, 583, 584, 585, 586, 587] (by decide +kernel) (by decide +kernel)
set_option maxRecDepth 20000 in
theorem gL_law_X2_init : GoodIn wsL_law (wsX2_init) := ggL_law_X2_init
set_option maxRecDepth 20000 in
theorem ggL_law_X3_init : GoodIn wsL_law wsX3_init := goodIn_r _ [39, 40, 12, 13, 14, 41, 42, 43, 44, 45, 46, 47, 48, 49, 50, 568, 569, 570, 571, 572, 573, 574, 575, 576, 577, 578, 579, 580, 581, 582] (by decide +kernel) (by decide +kernel)
set_option maxRecDepth 20000 in
theorem gL_law_X3_init : GoodIn wsL_law (wsX3_init) := ggL_law_X3_init
set_option maxRecDepth 20000 in
theorem ggL_law_X2_deal : GoodIn wsL_law wsX2_deal := goodIn_r _ [54, 15, 19, 20, 21, 22, 23, 24, 28, 55, 56, 57, 2, 58, 59, 60, 61, 62, 63, 64, 65, 66, 67, 68, 69, 70, 71, 72, 73, 74, 75, 76, 77, 78, 18, 79, 32, 33, 34, 35, 36, 80, 81, 82, 557, 558, 559, 560, 561, 562, 563, 564, 565, 566, 567, 583, 584, 585, 586, 587] (by decide +kernel) (by decide +kernel)
set_option maxRecDepth 20000 in
theorem gL_law_X2_deal : GoodIn wsL_law (wsV RL 60 RX2 yX2_deal wsX2_deal) := goodIn_app (goodIn_of _ (by decide +kernel)) ggL_law_X2_deal
set_option maxRecDepth 20000 in
theorem ggL_law_X3_deal : GoodIn wsL_law wsX3_deal := goodIn_r _ [86, 87, 42, 88, 89, 41, 44, 45, 46, 47, 90, 91, 43, 92, 93, 94, 95, 5, 96, 97, 98, 99, 568, 569, 570, 571, 572, 573, 574, 575, 576, 577, 578, 579, 580, 581, 582] (by decide +kernel) (by decide +kernel)
set_option maxRecDepth 20000 in
theorem gL_law_X3_deal : GoodIn wsL_law (wsV RL 64 RX3 yX3_deal wsX3_deal) := goodIn_app (goodIn_of _ (by decide +kernel)) ggL_law_X3_deal
set_option maxRecDepth 20000 in
theorem ggL_law_L_play : GoodIn wsL_law wsL_play := goodIn_ca (goodIn_ca (goodIn_r _ [103, 104, 105, 106, 107, 108, 2, 109, 110, 111, 112, 113, 24, 114, 115, 23, 116, 117, 118, 119, 120, 121, 122, 21, 22, 123, 124, 125, 126, 127, 128, 129, 130, 19, 20, 131, 132, 133, 73, 74, 75, 134, 135, 136, 137, 80, 81, 82, 138, 139, 140, 141, 142, 143, 144, 145, 146, 147, 148, 149, 150, 151, 152, 153, 154, 155, 156, 157, 158, 159, 160, 161, 162, 163, 164, 165, 18, 166, 36, 167, 168, 169, 170, 15, 171, 172, 173, 174, 25, 26, 557, 558, 559, 560, 561, 562, 563, 564, 565, 566, 567, 583, 584, 585, 586, 587] (by decide +kernel) (by decide +kernel)) (goodIn_sub (fun _ h => List.mem_append_left _ (List.mem_append_left _ (List.mem_append_right _ h))) (by decide +kernel))) (goodIn_sub (fun _ h => List.mem_append_left _ (List.mem_append_right _ h)) (by decide +kernel))
set_option maxRecDepth 20000 in
theorem gL_law_L_play : GoodIn wsL_law (va_wsS RL 65 yL_play wsL_play) := goodIn_app (goodIn_of _ (by decide +kernel)) ggL_law_L_play
set_option maxRecDepth 20000 in
theorem ggL_law_X3_play : GoodIn wsL_law wsX3_play := goodIn_r _ [178, 87, 43, 41, 91, 179, 180, 5, 181, 182, 183, 184, 185, 93, 44, 94, 95, 96, 186, 187, 188, 189, 190, 191, 192, 193, 97, 98, 99, 194, 195, 196, 197, 92, 90, 198, 199, 200, 201, 202, 203, 204, 205, 47, 45, 46, 48, 206, 207, 208, 209, 210, 211, 212, 213, 214, 215, 216, 217, 218, 219, 42, 220, 221, 222, 223, 568, 569, 570, 571, 572, 573, 574, 575, 576, 577, 578, 579, 580, 581, 582] (by decide +kernel) (by decide +kernel)
set_option maxRecDepth 20000 in
theorem gL_law_X3_play : GoodIn wsL_law (wsV RL 70 RX3 yX3_play wsX3_play) := goodIn_app (goodIn_of _ (by decide +kernel)) ggL_law_X3_play
set_option maxRecDepth 20000 in
theorem ggL_law_X3_thrown : GoodIn wsL_law wsX3_thrown := goodIn_r _ [227, 87, 568, 569, 570, 571, 572, 573, 574, 575, 576, 577, 578, 579, 580, 581, 582] (by decide +kernel) (by decide +kernel)
set_option maxRecDepth 20000 in
theorem gL_law_X3_thrown : GoodIn wsL_law (wsV RL 71 RX3 yX3_thrown wsX3_thrown) := goodIn_app (goodIn_of _ (by decide +kernel)) ggL_law_X3_thrown
set_option maxRecDepth 20000 in
theorem ggL_law_L_putOnGloves : GoodIn wsL_law wsL_putOnGloves := goodIn_ca (goodIn_r _ [230, 105, 231, 232, 233, 2, 234, 112, 113, 24, 149, 127, 128, 129, 130, 19, 20, 557, 558, 559, 560, 561, 562, 563, 564, 565, 566, 567, 583, 584, 585, 586, 587] (by decide +kernel) (by decide +kernel)) (goodIn_sub (fun _ h => List.mem_append_left _ (List.mem_append_right _ h)) (by decide +kernel))
set_option maxRecDepth 20000 in
theorem gL_law_L_putOnGloves : GoodIn wsL_law (va_wsS RL 74 yL_putOnGloves wsL_putOnGloves) := goodIn_app (goodIn_of _ (by decide +kernel)) ggL_law_L_putOnGloves
set_option maxRecDepth 20000 in
theorem ggL_law_X3_putOnGloves : GoodIn wsL_law wsX3_putOnGloves := goodIn_r _ [238, 93, 47, 91, 87, 568, 569, 570, 571, 572, 573, 574, 575, 576, 577, 578, 579, 580, 581, 582] (by decide +kernel) (by decide +kernel)
set_option maxRecDepth 20000 in
theorem gL_law_X3_putOnGloves : GoodIn wsL_law (wsV RL 77 RX3 yX3_putOnGloves wsX3_putOnGloves) := goodIn_app (goodIn_of _ (by decide +kernel)) ggL_law_X3_putOnGloves
set_option maxRecDepth 20000 in
theorem ggL_law_L_whyNot : GoodIn wsL_law wsL_whyNot := goodIn_ca (goodIn_r _ [241, 104, 242, 243, 244, 2, 245, 110, 111, 116, 117, 118, 119, 120, 121, 122, 24, 23, 21, 22, 123, 124, 125, 126, 114, 127, 128, 129, 130, 19, 20, 131, 132, 133, 73, 74, 75, 134, 135, 136, 137, 80, 81, 82, 138, 139, 140, 141, 142, 143, 144, 557, 558, 559, 560, 561, 562, 563, 564, 565, 566, 567, 583, 584, 585, 586, 587] (by decide +kernel) (by decide +kernel)) (goodIn_sub (fun _ h => List.mem_append_left _ (List.mem_append_left _ (List.mem_append_right _ h))) (by decide +kernel))
set_option maxRecDepth 20000 in
theorem gL_law_L_whyNot : GoodIn wsL_law (va_wsS RL 78 yL_whyNot wsL_whyNot) := goodIn_app (goodIn_of _ (by decide +kernel)) ggL_law_L_whyNot
set_option maxRecDepth 20000 in
theorem ggL_law_X3_whyNot : GoodIn wsL_law wsX3_whyNot := goodIn_r _ [249, 87, 179, 180, 5, 181, 182, 183, 184, 185, 93, 41, 91, 43, 44, 94, 95, 96, 186, 187, 188, 189, 190, 191, 192, 193, 97, 98, 99, 194, 195, 196, 197, 92, 90, 198, 199, 200, 201, 568, 569, 570, 571, 572, 573, 574, 575, 576, 577, 578, 579, 580, 581, 582] (by decide +kernel) (by decide +kernel)
set_option maxRecDepth 20000 in
theorem gL_law_X3_whyNot : GoodIn wsL_law (wsV RL 80 RX3 yX3_whyNot wsX3_whyNot) := goodIn_app (goodIn_of _ (by decide +kernel)) ggL_law_X3_whyNot
set_option maxRecDepth 20000 in
theorem ggL_law_X2_isPlaying : GoodIn wsL_law wsX2_isPlaying := goodIn_r _ [253, 24, 557, 558, 559, 560, 561, 562, 563, 564, 565, 566, 567] (by decide +kernel) (by decide +kernel)
set_option maxRecDepth 20000 in
theorem gL_law_X2_isPlaying : GoodIn wsL_law (wsV RL 81 RX2 yX2_isPlaying wsX2_isPlaying) := goodIn_app (goodIn_of _ (by decide +kernel)) ggL_law_X2_isPlaying
set_option maxRecDepth 20000 in
theorem ggL_law_X3_isPlaying : GoodIn wsL_law wsX3_isPlaying := goodIn_r _ [257, 87, 93, 568, 569, 570, 571, 572, 573, 574, 575, 576, 577, 578, 579, 580, 581, 582] (by decide +kernel) (by decide +kernel)
set_option maxRecDepth 20000 in
theorem gL_law_X3_isPlaying : GoodIn wsL_law (wsV RL 85 RX3 yX3_isPlaying wsX3_isPlaying) := goodIn_app (goodIn_of _ (by decide +kernel)) ggL_law_X3_isPlaying
set_option maxRecDepth 20000 in
theorem ggL_law_X2_turn : GoodIn wsL_law wsX2_turn := goodIn_r _ [261, 24, 557, 558, 559, 560, 561, 562, 563, 564, 565, 566, 567] (by decide +kernel) (by decide +kernel)
set_option maxRecDepth 20000 in
theorem gL_law_X2_turn : GoodIn wsL_law (wsV RL 86 RX2 yX2_turn wsX2_turn) := goodIn_app (goodIn_of _ (by decide +kernel)) ggL_law_X2_turn
set_option maxRecDepth 20000 in
theorem ggL_law_X3_turn : GoodIn wsL_law wsX3_turn := goodIn_r _ [265, 87, 93, 91, 568, 569, 570, 571, 572, 573, 574, 575, 576, 577, 578, 579, 580, 581, 582] (by decide +kernel) (by decide +kernel)
set_option maxRecDepth 20000 in
theorem gL_law_X3_turn : GoodIn wsL_law (wsV RL 89 RX3 yX3_turn wsX3_turn) := goodIn_app (goodIn_of _ (by decide +kernel)) ggL_law_X3_turn
set_option maxRecDepth 20000 in
theorem ggL_law_X2_led : GoodIn wsL_law wsX2_led := goodIn_r _ [269, 23, 557, 558, 559, 560, 561, 562, 563, 564, 565, 566, 567] (by decide +kernel) (by decide +kernel)
set_option maxRecDepth 20000 in
theorem gL_law_X2_led : GoodIn wsL_law (wsV RL 90 RX2 yX2_led wsX2_led) := goodIn_app (goodIn_of _ (by decide +kernel)) ggL_law_X2_led
set_option maxRecDepth 20000 in
theorem ggL_law_X3_led : GoodIn wsL_law wsX3_led := goodIn_r _ [273, 87, 43, 568, 569, 570, 571, 572, 573, 574, 575, 576, 577, 578, 579, 580, 581, 582] (by decide +kernel) (by decide +kernel)
set_option maxRecDepth 20000 in
theorem gL_law_X3_led : GoodIn wsL_law (wsV RL 93 RX3 yX3_led wsX3_led) := goodIn_app (goodIn_of _ (by decide +kernel)) ggL_law_X3_led
set_option maxRecDepth 20000 in
theorem ggL_law_X2_trumps : GoodIn wsL_law wsX2_trumps := goodIn_r _ [277, 22, 557, 558, 559, 560, 561, 562, 563, 564, 565, 566, 567] (by decide +kernel) (by decide +kernel)
set_option maxRecDepth 20000 in
theorem gL_law_X2_trumps : GoodIn wsL_law (wsV RL 94 RX2 yX2_trumps wsX2_trumps) := goodIn_app (goodIn_of _ (by decide +kernel)) ggL_law_X2_trumps
set_option maxRecDepth 20000 in
theorem ggL_law_X3_trumps : GoodIn wsL_law wsX3_trumps := goodIn_r _ [281, 87, 44, 568, 569, 570, 571, 572, 573, 574, 575, 576, 577, 578, 579, 580, 581, 582] (by decide +kernel) (by decide +kernel)
set_option maxRecDepth 20000 in
theorem gL_law_X3_trumps : GoodIn wsL_law (wsV RL 97 RX3 yX3_trumps wsX3_trumps) := goodIn_app (goodIn_of _ (by decide +kernel)) ggL_law_X3_trumps
set_option maxRecDepth 20000 in
theorem ggL_law_X2_pile : GoodIn wsL_law wsX2_pile := goodIn_r _ [285, 21, 557, 558, 559, 560, 561, 562, 563, 564, 565, 566, 567] (by decide +kernel) (by decide +kernel)
set_option maxRecDepth 20000 in
theorem gL_law_X2_pile : GoodIn wsL_law (wsV RL 98 RX2 yX2_pile wsX2_pile) := goodIn_app (goodIn_of _ (by decide +kernel)) ggL_law_X2_pile
set_option maxRecDepth 20000 in
theorem ggL_law_X3_pile : GoodIn wsL_law wsX3_pile := goodIn_r _ [289, 87, 194, 195, 196, 5, 197, 92, 90, 568, 569, 570, 571, 572, 573, 574, 575, 576, 577, 578, 579, 580, 581, 582] (by decide +kernel) (by decide +kernel)
set_option maxRecDepth 20000 in
theorem gL_law_X3_pile : GoodIn wsL_law (wsV RL 101 RX3 yX3_pile wsX3_pile) := goodIn_app (goodIn_of _ (by decide +kernel)) ggL_law_X3_pile
set_option maxRecDepth 20000 in
theorem ggL_law_L_cards : GoodIn wsL_law wsL_cards := goodIn_ca (goodIn_r _ [292, 293, 294, 295, 296, 2, 297, 298, 299, 114, 300, 301, 302, 127, 128, 129, 130, 19, 20, 303, 304, 305, 306, 307, 308, 309, 583, 584, 585, 586, 587, 557, 558, 559, 560, 561, 562, 563, 564, 565, 566, 567] (by decide +kernel) (by decide +kernel)) (goodIn_sub (fun _ h => List.mem_append_right _ h) (by decide +kernel))
set_option maxRecDepth 20000 in
theorem gL_law_L_cards : GoodIn wsL_law (va_wsS RL 102 yL_cards wsL_cards) := goodIn_app (goodIn_of _ (by decide +kernel)) ggL_law_L_cards
set_option maxRecDepth 20000 in
theorem ggL_law_X3_cards : GoodIn wsL_law wsX3_cards := goodIn_r _ [313, 87, 314, 315, 5, 316, 220, 221, 222, 223, 92, 41, 568, 569, 570, 571, 572, 573, 574, 575, 576, 577, 578, 579, 580, 581, 582] (by decide +kernel) (by decide +kernel)
set_option maxRecDepth 20000 in
theorem gL_law_X3_cards : GoodIn wsL_law (wsV RL 104 RX3 yX3_cards wsX3_cards) := goodIn_app (goodIn_of _ (by decide +kernel)) ggL_law_X3_cards
set_option maxRecDepth 20000 in
theorem ggL_law_L_cardAt : GoodIn wsL_law wsL_cardAt := goodIn_ca (goodIn_r _ [319, 293, 320, 321, 322, 2, 323, 298, 299, 114, 300, 301, 302, 127, 128, 129, 130, 19, 20, 131, 132, 133, 73, 74, 75, 583, 584, 585, 586, 587, 557, 558, 559, 560, 561, 562, 563, 564, 565, 566, 567] (by decide +kernel) (by decide +kernel)) (goodIn_sub (fun _ h => List.mem_append_right _ h) (by decide +kernel))
set_option maxRecDepth 20000 in
theorem gL_law_L_cardAt : GoodIn wsL_law (va_wsS RL 105 yL_cardAt wsL_cardAt) := goodIn_app (goodIn_of _ (by decide +kernel)) ggL_law_L_cardAt
set_option maxRecDepth 20000 in
theorem ggL_law_X3_cardAt : GoodIn wsL_law wsX3_cardAt := goodIn_r _ [327, 87, 92, 41, 314, 315, 5, 316, 568, 569, 570, 571, 572, 573, 574, 575, 576, 577, 578, 579, 580, 581, 582] (by decide +kernel) (by decide +kernel)
set_option maxRecDepth 20000 in
theorem gL_law_X3_cardAt : GoodIn wsL_law (wsV RL 108 RX3 yX3_cardAt wsX3_cardAt) := goodIn_app (goodIn_of _ (by decide +kernel)) ggL_law_X3_cardAt
set_option maxRecDepth 20000 in
theorem ggL_law_L_placeOf : GoodIn wsL_law wsL_placeOf := goodIn_ca (goodIn_r _ [330, 104, 331, 332, 333, 2, 334, 110, 111, 22, 19, 114, 20, 152, 23, 116, 117, 118, 131, 132, 133, 73, 74, 75, 557, 558, 559, 560, 561, 562, 563, 564, 565, 566, 567, 583, 584, 585, 586, 587] (by decide +kernel) (by decide +kernel)) (goodIn_sub (fun _ h => List.mem_append_left _ (List.mem_append_left _ (List.mem_append_right _ h))) (by decide +kernel))
set_option maxRecDepth 20000 in
theorem gL_law_L_placeOf : GoodIn wsL_law (va_wsS RL 109 yL_placeOf wsL_placeOf) := goodIn_app (goodIn_of _ (by decide +kernel)) ggL_law_L_placeOf
set_option maxRecDepth 20000 in
theorem ggL_law_X3_placeOf : GoodIn wsL_law wsX3_placeOf := goodIn_r _ [338, 87, 92, 41, 179, 180, 5, 181, 568, 569, 570, 571, 572, 573, 574, 575, 576, 577, 578, 579, 580, 581, 582] (by decide +kernel) (by decide +kernel)
set_option maxRecDepth 20000 in
theorem gL_law_X3_placeOf : GoodIn wsL_law (wsV RL 111 RX3 yX3_placeOf wsX3_placeOf) := goodIn_app (goodIn_of _ (by decide +kernel)) ggL_law_X3_placeOf
set_option maxRecDepth 20000 in
theorem ggL_law_L_points : GoodIn wsL_law wsL_points := goodIn_ca (goodIn_r _ [341, 293, 342, 343, 344, 2, 345, 298, 299, 150, 300, 301, 302, 127, 128, 129, 130, 19, 20, 583, 584, 585, 586, 587, 557, 558, 559, 560, 561, 562, 563, 564, 565, 566, 567] (by decide +kernel) (by decide +kernel)) (goodIn_sub (fun _ h => List.mem_append_right _ h) (by decide +kernel))
set_option maxRecDepth 20000 in
theorem gL_law_L_points : GoodIn wsL_law (va_wsS RL 112 yL_points wsL_points) := goodIn_app (goodIn_of _ (by decide +kernel)) ggL_law_L_points
set_option maxRecDepth 20000 in
theorem ggL_law_X3_points : GoodIn wsL_law wsX3_points := goodIn_r _ [349, 45, 350, 351, 352, 5, 353, 87, 314, 315, 316, 568, 569, 570, 571, 572, 573, 574, 575, 576, 577, 578, 579, 580, 581, 582] (by decide +kernel) (by decide +kernel)
set_option maxRecDepth 20000 in
theorem gL_law_X3_points : GoodIn wsL_law (wsV RL 114 RX3 yX3_points wsX3_points) := goodIn_app (goodIn_of _ (by decide +kernel)) ggL_law_X3_points
set_option maxRecDepth 20000 in
theorem ggL_law_L_tricks : GoodIn wsL_law wsL_tricks := goodIn_ca (goodIn_r _ [356, 293, 357, 358, 359, 2, 360, 298, 299, 151, 300, 301, 302, 127, 128, 129, 130, 19, 20, 583, 584, 585, 586, 587, 557, 558, 559, 560, 561, 562, 563, 564, 565, 566, 567] (by decide +kernel) (by decide +kernel)) (goodIn_sub (fun _ h => List.mem_append_right _ h) (by decide +kernel))
set_option maxRecDepth 20000 in
theorem gL_law_L_tricks : GoodIn wsL_law (va_wsS RL 115 yL_tricks wsL_tricks) := goodIn_app (goodIn_of _ (by decide +kernel)) ggL_law_L_tricks
set_option maxRecDepth 20000 in
theorem ggL_law_X3_tricks : GoodIn wsL_law wsX3_tricks := goodIn_r _ [364, 46, 350, 351, 352, 5, 353, 87, 314, 315, 316, 568, 569, 570, 571, 572, 573, 574, 575, 576, 577, 578, 579, 580, 581, 582] (by decide +kernel) (by decide +kernel)
set_option maxRecDepth 20000 in
theorem gL_law_X3_tricks : GoodIn wsL_law (wsV RL 117 RX3 yX3_tricks wsX3_tricks) := goodIn_app (goodIn_of _ (by decide +kernel)) ggL_law_X3_tricks
set_option maxRecDepth 20000 in
theorem ggL_law_L_gloves : GoodIn wsL_law wsL_gloves := goodIn_ca (goodIn_r _ [367, 293, 368, 369, 370, 2, 371, 298, 299, 149, 300, 301, 302, 127, 128, 129, 130, 19, 20, 583, 584, 585, 586, 587, 557, 558, 559, 560, 561, 562, 563, 564, 565, 566, 567] (by decide +kernel) (by decide +kernel)) (goodIn_sub (fun _ h => List.mem_append_right _ h) (by decide +kernel))
set_option maxRecDepth 20000 in
theorem gL_law_L_gloves : GoodIn wsL_law (va_wsS RL 118 yL_gloves wsL_gloves) := goodIn_app (goodIn_of _ (by decide +kernel)) ggL_law_L_gloves
set_option maxRecDepth 20000 in
theorem ggL_law_X3_gloves : GoodIn wsL_law wsX3_gloves := goodIn_r _ [375, 47, 350, 351, 352, 5, 353, 87, 314, 315, 316, 568, 569, 570, 571, 572, 573, 574, 575, 576, 577, 578, 579, 580, 581, 582] (by decide +kernel) (by decide +kernel)
set_option maxRecDepth 20000 in
theorem gL_law_X3_gloves : GoodIn wsL_law (wsV RL 120 RX3 yX3_gloves wsX3_gloves) := goodIn_app (goodIn_of _ (by decide +kernel)) ggL_law_X3_gloves
set_option maxRecDepth 20000 in
theorem ggL_law_X2_choices : GoodIn wsL_law wsX2_choices := goodIn_r _ [379, 119, 120, 121, 2, 122, 24, 23, 21, 22, 123, 124, 125, 126, 114, 127, 128, 129, 130, 19, 20, 131, 132, 133, 73, 74, 75, 134, 135, 136, 137, 80, 81, 82, 138, 139, 140, 141, 142, 143, 144, 557, 558, 559, 560, 561, 562, 563, 564, 565, 566, 567, 583, 584, 585, 586, 587] (by decide +kernel) (by decide +kernel)
set_option maxRecDepth 20000 in
theorem gL_law_X2_choices : GoodIn wsL_law (wsV RL 121 RX2 yX2_choices wsX2_choices) := goodIn_app (goodIn_of _ (by decide +kernel)) ggL_law_X2_choices
set_option maxRecDepth 20000 in
theorem ggL_law_X3_choices : GoodIn wsL_law wsX3_choices := goodIn_r _ [383, 87, 182, 183, 184, 5, 185, 93, 41, 91, 43, 44, 94, 95, 96, 186, 187, 188, 189, 190, 191, 192, 193, 97, 98, 99, 194, 195, 196, 197, 92, 90, 198, 199, 200, 201, 568, 569, 570, 571, 572, 573, 574, 575, 576, 577, 578, 579, 580, 581, 582] (by decide +kernel) (by decide +kernel)
set_option maxRecDepth 20000 in
theorem gL_law_X3_choices : GoodIn wsL_law (wsV RL 124 RX3 yX3_choices wsX3_choices) := goodIn_app (goodIn_of _ (by decide +kernel)) ggL_law_X3_choices
set_option maxRecDepth 20000 in
theorem ggL_law_L_wouldTake : GoodIn wsL_law wsL_wouldTake := goodIn_ca (goodIn_ca (goodIn_r _ [386, 104, 105, 387, 388, 389, 2, 390, 110, 111, 112, 113, 23, 116, 117, 118, 153, 154, 155, 156, 22, 24, 157, 158, 159, 80, 81, 82, 557, 558, 559, 560, 561, 562, 563, 564, 565, 566, 567] (by decide +kernel) (by decide +kernel)) (goodIn_sub (fun _ h => List.mem_append_left _ (List.mem_append_left _ (List.mem_append_right _ h))) (by decide +kernel))) (goodIn_sub (fun _ h => List.mem_append_left _ (List.mem_append_right _ h)) (by decide +kernel))
set_option maxRecDepth 20000 in
theorem gL_law_L_wouldTake : GoodIn wsL_law (va_wsS RL 125 yL_wouldTake wsL_wouldTake) := goodIn_app (goodIn_of _ (by decide +kernel)) ggL_law_L_wouldTake
set_option maxRecDepth 20000 in
theorem ggL_law_X3_wouldTake : GoodIn wsL_law wsX3_wouldTake := goodIn_r _ [394, 43, 87, 91, 179, 180, 5, 181, 206, 207, 208, 209, 94, 95, 96, 97, 98, 99, 198, 199, 200, 201, 44, 568, 569, 570, 571, 572, 573, 574, 575, 576, 577, 578, 579, 580, 581, 582] (by decide +kernel) (by decide +kernel)
set_option maxRecDepth 20000 in
theorem gL_law_X3_wouldTake : GoodIn wsL_law (wsV RL 127 RX3 yX3_wouldTake wsX3_wouldTake) := goodIn_app (goodIn_of _ (by decide +kernel)) ggL_law_X3_wouldTake
set_option maxRecDepth 20000 in
theorem ggL_law_L_best : GoodIn wsL_law wsL_best := goodIn_ca (goodIn_r _ [397, 105, 398, 399, 400, 2, 401, 112, 113, 23, 24, 402, 403, 404, 405, 21, 406, 407, 408, 409, 27, 410, 411, 412, 28, 19, 114, 20, 22, 413, 414, 415, 12, 13, 14, 416, 417, 418, 419, 420, 421, 422, 423, 424, 425, 426, 427, 123, 124, 125, 126, 127, 128, 129, 130, 428, 429, 430, 431, 432, 433, 434, 435, 149, 436, 437, 438, 439, 440, 441, 442, 443, 444, 445, 446, 447, 448, 449, 450, 451, 132, 133, 73, 74, 75, 135, 136, 137, 80, 81, 82, 139, 140, 141, 142, 143, 144, 131, 452, 453, 454, 455, 456, 158, 159, 457, 458, 459, 161, 162, 460, 461, 462, 463, 464, 465, 466, 467, 468, 469, 470, 557, 558, 559, 560, 561, 562, 563, 564, 565, 566, 567, 588, 589, 590, 591, 583, 584, 585, 586, 587] (by decide +kernel) (by decide +kernel)) (goodIn_sub (fun _ h => List.mem_append_left _ (List.mem_append_right _ h)) (by decide +kernel))
set_option maxRecDepth 20000 in
theorem gL_law_L_best : GoodIn wsL_law (va_wsS RL 128 yL_best wsL_best) := goodIn_app (goodIn_of _ (by decide +kernel)) ggL_law_L_best
set_option maxRecDepth 20000 in
theorem ggL_law_X3_best : GoodIn wsL_law wsX3_best := goodIn_r _ [474, 475, 476, 477, 5, 478, 93, 87, 91, 49, 194, 195, 196, 197, 92, 90, 479, 480, 481, 482, 50, 483, 484, 485, 486, 41, 220, 221, 222, 223, 487, 488, 489, 490, 491, 492, 493, 494, 495, 496, 497, 94, 95, 96, 498, 499, 500, 501, 97, 98, 99, 502, 503, 504, 505, 506, 507, 508, 509, 44, 198, 199, 200, 201, 510, 511, 512, 513, 206, 207, 208, 209, 210, 211, 212, 213, 214, 215, 514, 515, 516, 517, 182, 183, 184, 185, 43, 186, 187, 188, 189, 190, 191, 192, 193, 518, 519, 520, 521, 522, 523, 524, 525, 47, 568, 569, 570, 571, 572, 573, 574, 575, 576, 577, 578, 579, 580, 581, 582] (by decide +kernel) (by decide +kernel)
set_option maxRecDepth 20000 in
theorem gL_law_X3_best : GoodIn wsL_law (wsV RL 130 RX3 yX3_best wsX3_best) := goodIn_app (goodIn_of _ (by decide +kernel)) ggL_law_X3_best
set_option maxRecDepth 20000 in
theorem ggL_law_L_bestCard : GoodIn wsL_law wsL_bestCard := goodIn_ca (goodIn_r _ [528, 105, 529, 530, 531, 2, 532, 112, 113, 23, 24, 402, 403, 404, 405, 21, 406, 407, 408, 409, 27, 410, 411, 412, 28, 19, 114, 20, 22, 413, 414, 415, 12, 13, 14, 416, 417, 418, 419, 420, 421, 422, 423, 424, 425, 426, 427, 123, 124, 125, 126, 127, 128, 129, 130, 428, 429, 430, 431, 432, 433, 434, 435, 149, 533, 534, 535, 536, 448, 449, 450, 451, 132, 133, 73, 74, 75, 135, 136, 137, 80, 81, 82, 139, 140, 141, 142, 143, 144, 131, 452, 453, 454, 455, 456, 440, 441, 442, 158, 159, 457, 458, 459, 161, 162, 460, 461, 462, 443, 444, 445, 446, 447, 463, 464, 465, 466, 467, 468, 469, 470, 557, 558, 559, 560, 561, 562, 563, 564, 565, 566, 567, 588, 589, 590, 591, 583, 584, 585, 586, 587] (by decide +kernel) (by decide +kernel)) (goodIn_sub (fun _ h => List.mem_append_left _ (List.mem_append_right _ h)) (by decide +kernel))
set_option maxRecDepth 20000 in
theorem gL_law_L_bestCard : GoodIn wsL_law (va_wsS RL 131 yL_bestCard wsL_bestCard) := goodIn_app (goodIn_of _ (by decide +kernel)) ggL_law_L_bestCard
set_option maxRecDepth 20000 in
theorem ggL_law_X3_bestCard : GoodIn wsL_law wsX3_bestCard := goodIn_r _ [540, 49, 91, 475, 476, 477, 5, 478, 93, 87, 194, 195, 196, 197, 92, 90, 479, 480, 481, 482, 50, 483, 484, 485, 486, 41, 220, 221, 222, 223, 487, 488, 489, 490, 491, 492, 493, 494, 495, 496, 497, 94, 95, 96, 498, 499, 500, 501, 97, 98, 99, 502, 503, 504, 505, 506, 507, 508, 509, 44, 198, 199, 200, 201, 510, 511, 512, 513, 206, 207, 208, 209, 210, 211, 212, 213, 214, 215, 514, 515, 516, 517, 182, 183, 184, 185, 43, 186, 187, 188, 189, 190, 191, 192, 193, 518, 519, 520, 521, 522, 523, 524, 525, 47, 568, 569, 570, 571, 572, 573, 574, 575, 576, 577, 578, 579, 580, 581, 582] (by decide +kernel) (by decide +kernel)
set_option maxRecDepth 20000 in
theorem gL_law_X3_bestCard : GoodIn wsL_law (wsV RL 133 RX3 yX3_bestCard wsX3_bestCard) := goodIn_app (goodIn_of _ (by decide +kernel)) ggL_law_X3_bestCard
set_option maxRecDepth 20000 in
theorem ggL_law_X2_wonByFirst : GoodIn wsL_law wsX2_wonByFirst := goodIn_r _ [544, 25, 557, 558, 559, 560, 561, 562, 563, 564, 565, 566, 567] (by decide +kernel) (by decide +kernel)
set_option maxRecDepth 20000 in
theorem gL_law_X2_wonByFirst : GoodIn wsL_law (wsV RL 134 RX2 yX2_wonByFirst wsX2_wonByFirst) := goodIn_app (goodIn_of _ (by decide +kernel)) ggL_law_X2_wonByFirst
set_option maxRecDepth 20000 in
theorem ggL_law_X3_wonByFirst : GoodIn wsL_law wsX3_wonByFirst := goodIn_r _ [548, 87, 48, 568, 569, 570, 571, 572, 573, 574, 575, 576, 577, 578, 579, 580, 581, 582] (by decide +kernel) (by decide +kernel)
set_option maxRecDepth 20000 in
theorem gL_law_X3_wonByFirst : GoodIn wsL_law (wsV RL 137 RX3 yX3_wonByFirst wsX3_wonByFirst) := goodIn_app (goodIn_of _ (by decide +kernel)) ggL_law_X3_wonByFirst
set_option maxRecDepth 20000 in
theorem ggL_law_X2_wonBySecond : GoodIn wsL_law wsX2_wonBySecond := goodIn_r _ [552, 26, 557, 558, 559, 560, 561, 562, 563, 564, 565, 566, 567] (by decide +kernel) (by decide +kernel)
set_option maxRecDepth 20000 in
theorem gL_law_X2_wonBySecond : GoodIn wsL_law (wsV RL 138 RX2 yX2_wonBySecond wsX2_wonBySecond) := goodIn_app (goodIn_of _ (by decide +kernel)) ggL_law_X2_wonBySecond
set_option maxRecDepth 20000 in
theorem ggL_law_X3_wonBySecond : GoodIn wsL_law wsX3_wonBySecond := goodIn_r _ [556, 87, 48, 568, 569, 570, 571, 572, 573, 574, 575, 576, 577, 578, 579, 580, 581, 582] (by decide +kernel) (by decide +kernel)
set_option maxRecDepth 20000 in
theorem gL_law_X3_wonBySecond : GoodIn wsL_law (wsV RL 141 RX3 yX3_wonBySecond wsX3_wonBySecond) := goodIn_app (goodIn_of _ (by decide +kernel)) ggL_law_X3_wonBySecond
