set_option maxRecDepth 20000 in
theorem ggL_play_X2_play : GoodIn wsL_play wsX2_play := goodIn_ca (goodIn_ca (goodIn_r _ [7, 8, 9, 10, 11, 12, 13, 14, 15, 16, 17, 6, 18, 19, 20, 21, 22, 23, 24, 25, 26, 27, 28, 29, 30, 31, 32, 33, 34, 35, 36, 37, 38, 39, 40, 41, 42, 43, 44, 45, 46, 47, 48, 49, 50, 51, 52, 53, 54, 55, 56, 57, 58, 59, 60, 61, 62, 63, 64, 65, 66, 67, 68, 69, 70, 71, 72, 73, 74, 75, 76, 77, 78, 79, 80, 81, 82, 83, 84, 85, 86, 87, 88, 89, 90, 91, 92, 93, 94, 95, 96, 97, 98, 99, 100, 101, 102, 103, 104, 105] (by decide +kernel) (by decide +kernel)) (goodIn_sub (fun _ h => List.mem_cons_of_mem _ (List.mem_append_left _ (List.mem_append_right _ h))) (by decide +kernel))) (goodIn_sub (fun _ h => List.mem_cons_of_mem _ (List.mem_append_right _ h)) (by decide +kernel))
set_option maxRecDepth 20000 in
theorem gL_play_X2_play : GoodIn wsL_play (wsV RL 7 RX2 yX2_play wsX2_play) := goodIn_app (goodIn_of _ (by decide +kernel)) ggL_play_X2_play
theorem dL_play_0 : decode cL_play 0 = .ok (.aload_n 2, 1) := by decide +kernel
theorem dL_play_1 : decode cL_play 1 = .ok (.iconst 0, 1) := by decide +kernel
theorem dL_play_2 : decode cL_play 2 = .ok (.aload_n 0, 1) := by decide +kernel
theorem dL_play_3 : decode cL_play 3 = .ok (.iload_n 1, 1) := by decide +kernel
theorem dL_play_4 : decode cL_play 4 = .ok (.invokevirtual 7, 3) := by decide +kernel
theorem dL_play_7 : decode cL_play 7 = .ok (.i2l, 1) := by decide +kernel
theorem dL_play_8 : decode cL_play 8 = .ok (.lastore, 1) := by decide +kernel
theorem dL_play_9 : decode cL_play 9 = .ok (.goto 9, 3) := by decide +kernel
theorem dL_play_12 : decode cL_play 12 = .ok (.astore_n 3, 1) := by decide +kernel
theorem dL_play_13 : decode cL_play 13 = .ok (.iconst 1, 1) := by decide +kernel
theorem dL_play_14 : decode cL_play 14 = .ok (.ireturn, 1) := by decide +kernel
theorem dL_play_15 : decode cL_play 15 = .ok (.astore_n 3, 1) := by decide +kernel
theorem dL_play_16 : decode cL_play 16 = .ok (.iconst 2, 1) := by decide +kernel
theorem dL_play_17 : decode cL_play 17 = .ok (.ireturn, 1) := by decide +kernel
theorem dL_play_18 : decode cL_play 18 = .ok (.iconst 0, 1) := by decide +kernel
theorem dL_play_19 : decode cL_play 19 = .ok (.ireturn, 1) := by decide +kernel
set_option maxRecDepth 20000 in
theorem ggL_putOnGloves_X2_putOnGloves : GoodIn wsL_putOnGloves wsX2_putOnGloves := goodIn_ca (goodIn_r _ [6, 7, 8, 9, 10, 11, 12, 13, 5, 14, 15, 16, 17, 18, 19, 20, 21, 22, 23, 24, 25, 26, 27, 28, 29, 30, 31, 32] (by decide +kernel) (by decide +kernel)) (goodIn_sub (fun _ h => List.mem_cons_of_mem _ (List.mem_append_right _ h)) (by decide +kernel))
set_option maxRecDepth 20000 in
theorem gL_putOnGloves_X2_putOnGloves : GoodIn wsL_putOnGloves (wsV RL 17 RX2 yX2_putOnGloves wsX2_putOnGloves) := goodIn_app (goodIn_of _ (by decide +kernel)) ggL_putOnGloves_X2_putOnGloves
theorem dL_putOnGloves_0 : decode cL_putOnGloves 0 = .ok (.aload_n 1, 1) := by decide +kernel
theorem dL_putOnGloves_1 : decode cL_putOnGloves 1 = .ok (.iconst 0, 1) := by decide +kernel
theorem dL_putOnGloves_2 : decode cL_putOnGloves 2 = .ok (.aload_n 0, 1) := by decide +kernel
theorem dL_putOnGloves_3 : decode cL_putOnGloves 3 = .ok (.invokevirtual 17, 3) := by decide +kernel
theorem dL_putOnGloves_6 : decode cL_putOnGloves 6 = .ok (.i2l, 1) := by decide +kernel
theorem dL_putOnGloves_7 : decode cL_putOnGloves 7 = .ok (.lastore, 1) := by decide +kernel
theorem dL_putOnGloves_8 : decode cL_putOnGloves 8 = .ok (.goto 6, 3) := by decide +kernel
theorem dL_putOnGloves_11 : decode cL_putOnGloves 11 = .ok (.astore_n 2, 1) := by decide +kernel
theorem dL_putOnGloves_12 : decode cL_putOnGloves 12 = .ok (.iconst 1, 1) := by decide +kernel
theorem dL_putOnGloves_13 : decode cL_putOnGloves 13 = .ok (.ireturn, 1) := by decide +kernel
theorem dL_putOnGloves_14 : decode cL_putOnGloves 14 = .ok (.iconst 0, 1) := by decide +kernel
theorem dL_putOnGloves_15 : decode cL_putOnGloves 15 = .ok (.ireturn, 1) := by decide +kernel
set_option maxRecDepth 20000 in
theorem ggL_whyNot_X2_whyNot : GoodIn wsL_whyNot wsX2_whyNot := goodIn_ca (goodIn_r _ [6, 7, 8, 9, 10, 5, 11, 12, 13, 14, 15, 16, 17, 18, 19, 20, 21, 22, 23, 24, 25, 26, 27, 28, 29, 30, 31, 32, 33, 34, 35, 36, 37, 38, 39, 40, 41, 42, 43, 44, 45, 46, 47, 48, 49, 50, 51, 52, 53, 54, 55, 56, 57, 58, 59, 60, 61, 62, 63] (by decide +kernel) (by decide +kernel)) (goodIn_sub (fun _ h => List.mem_cons_of_mem _ (List.mem_append_right _ h)) (by decide +kernel))
set_option maxRecDepth 20000 in
theorem gL_whyNot_X2_whyNot : GoodIn wsL_whyNot (wsV RL 21 RX2 yX2_whyNot wsX2_whyNot) := goodIn_app (goodIn_of _ (by decide +kernel)) ggL_whyNot_X2_whyNot
theorem dL_whyNot_0 : decode cL_whyNot 0 = .ok (.aload_n 2, 1) := by decide +kernel
theorem dL_whyNot_1 : decode cL_whyNot 1 = .ok (.iconst 0, 1) := by decide +kernel
theorem dL_whyNot_2 : decode cL_whyNot 2 = .ok (.aload_n 0, 1) := by decide +kernel
theorem dL_whyNot_3 : decode cL_whyNot 3 = .ok (.iload_n 1, 1) := by decide +kernel
theorem dL_whyNot_4 : decode cL_whyNot 4 = .ok (.invokevirtual 21, 3) := by decide +kernel
theorem dL_whyNot_7 : decode cL_whyNot 7 = .ok (.i2l, 1) := by decide +kernel
theorem dL_whyNot_8 : decode cL_whyNot 8 = .ok (.lastore, 1) := by decide +kernel
theorem dL_whyNot_9 : decode cL_whyNot 9 = .ok (.goto 6, 3) := by decide +kernel
theorem dL_whyNot_12 : decode cL_whyNot 12 = .ok (.astore_n 3, 1) := by decide +kernel
theorem dL_whyNot_13 : decode cL_whyNot 13 = .ok (.iconst 1, 1) := by decide +kernel
theorem dL_whyNot_14 : decode cL_whyNot 14 = .ok (.ireturn, 1) := by decide +kernel
theorem dL_whyNot_15 : decode cL_whyNot 15 = .ok (.iconst 0, 1) := by decide +kernel
theorem dL_whyNot_16 : decode cL_whyNot 16 = .ok (.ireturn, 1) := by decide +kernel
set_option maxRecDepth 20000 in
theorem ggL_cards_X2_cards : GoodIn wsL_cards wsX2_cards := goodIn_ca (goodIn_r _ [6, 7, 8, 9, 10, 11, 5, 12, 13, 14, 15, 16, 17, 18, 19, 20, 21, 22, 23, 24, 25, 26, 27, 28, 29, 30, 31, 32, 33, 34, 35, 36, 37, 38, 39, 40, 41] (by decide +kernel) (by decide +kernel)) (goodIn_sub (fun _ h => List.mem_cons_of_mem _ (List.mem_append_right _ h)) (by decide +kernel))
set_option maxRecDepth 20000 in
theorem gL_cards_X2_cards : GoodIn wsL_cards (wsV RL 24 RX2 yX2_cards wsX2_cards) := goodIn_app (goodIn_of _ (by decide +kernel)) ggL_cards_X2_cards
theorem dL_cards_0 : decode cL_cards 0 = .ok (.aload_n 2, 1) := by decide +kernel
theorem dL_cards_1 : decode cL_cards 1 = .ok (.iconst 0, 1) := by decide +kernel
theorem dL_cards_2 : decode cL_cards 2 = .ok (.aload_n 0, 1) := by decide +kernel
theorem dL_cards_3 : decode cL_cards 3 = .ok (.iload_n 1, 1) := by decide +kernel
theorem dL_cards_4 : decode cL_cards 4 = .ok (.invokevirtual 24, 3) := by decide +kernel
theorem dL_cards_7 : decode cL_cards 7 = .ok (.i2l, 1) := by decide +kernel
theorem dL_cards_8 : decode cL_cards 8 = .ok (.lastore, 1) := by decide +kernel
theorem dL_cards_9 : decode cL_cards 9 = .ok (.goto 6, 3) := by decide +kernel
theorem dL_cards_12 : decode cL_cards 12 = .ok (.astore_n 3, 1) := by decide +kernel
theorem dL_cards_13 : decode cL_cards 13 = .ok (.iconst 1, 1) := by decide +kernel
theorem dL_cards_14 : decode cL_cards 14 = .ok (.ireturn, 1) := by decide +kernel
theorem dL_cards_15 : decode cL_cards 15 = .ok (.iconst 0, 1) := by decide +kernel
theorem dL_cards_16 : decode cL_cards 16 = .ok (.ireturn, 1) := by decide +kernel
set_option maxRecDepth 20000 in
theorem ggL_cardAt_X2_cardAt : GoodIn wsL_cardAt wsX2_cardAt := goodIn_ca (goodIn_r _ [6, 7, 8, 9, 10, 11, 5, 12, 13, 14, 15, 16, 17, 18, 19, 20, 21, 22, 23, 24, 25, 26, 27, 28, 29, 30, 31, 32, 33, 34, 35, 36, 37] (by decide +kernel) (by decide +kernel)) (goodIn_sub (fun _ h => List.mem_cons_of_mem _ (List.mem_append_right _ h)) (by decide +kernel))
set_option maxRecDepth 20000 in
theorem gL_cardAt_X2_cardAt : GoodIn wsL_cardAt (wsV RL 29 RX2 yX2_cardAt wsX2_cardAt) := goodIn_app (goodIn_of _ (by decide +kernel)) ggL_cardAt_X2_cardAt
theorem dL_cardAt_0 : decode cL_cardAt 0 = .ok (.aload_n 3, 1) := by decide +kernel
theorem dL_cardAt_1 : decode cL_cardAt 1 = .ok (.iconst 0, 1) := by decide +kernel
theorem dL_cardAt_2 : decode cL_cardAt 2 = .ok (.aload_n 0, 1) := by decide +kernel
theorem dL_cardAt_3 : decode cL_cardAt 3 = .ok (.iload_n 1, 1) := by decide +kernel
theorem dL_cardAt_4 : decode cL_cardAt 4 = .ok (.iload_n 2, 1) := by decide +kernel
theorem dL_cardAt_5 : decode cL_cardAt 5 = .ok (.invokevirtual 29, 3) := by decide +kernel
theorem dL_cardAt_8 : decode cL_cardAt 8 = .ok (.i2l, 1) := by decide +kernel
theorem dL_cardAt_9 : decode cL_cardAt 9 = .ok (.lastore, 1) := by decide +kernel
theorem dL_cardAt_10 : decode cL_cardAt 10 = .ok (.goto 7, 3) := by decide +kernel
theorem dL_cardAt_13 : decode cL_cardAt 13 = .ok (.astore 4, 2) := by decide +kernel
theorem dL_cardAt_15 : decode cL_cardAt 15 = .ok (.iconst 1, 1) := by decide +kernel
theorem dL_cardAt_16 : decode cL_cardAt 16 = .ok (.ireturn, 1) := by decide +kernel
theorem dL_cardAt_17 : decode cL_cardAt 17 = .ok (.iconst 0, 1) := by decide +kernel
theorem dL_cardAt_18 : decode cL_cardAt 18 = .ok (.ireturn, 1) := by decide +kernel
set_option maxRecDepth 20000 in
theorem ggL_placeOf_X2_placeOf : GoodIn wsL_placeOf wsX2_placeOf := goodIn_ca (goodIn_r _ [6, 7, 8, 9, 10, 11, 12, 13, 14, 15, 16, 5, 17, 18, 19, 20, 21, 22, 23, 24, 25, 26, 27, 28, 29, 30, 31, 32, 33, 34, 35, 36] (by decide +kernel) (by decide +kernel)) (goodIn_sub (fun _ h => List.mem_cons_of_mem _ (List.mem_append_right _ h)) (by decide +kernel))
set_option maxRecDepth 20000 in
theorem gL_placeOf_X2_placeOf : GoodIn wsL_placeOf (wsV RL 33 RX2 yX2_placeOf wsX2_placeOf) := goodIn_app (goodIn_of _ (by decide +kernel)) ggL_placeOf_X2_placeOf
theorem dL_placeOf_0 : decode cL_placeOf 0 = .ok (.aload_n 2, 1) := by decide +kernel
theorem dL_placeOf_1 : decode cL_placeOf 1 = .ok (.iconst 0, 1) := by decide +kernel
theorem dL_placeOf_2 : decode cL_placeOf 2 = .ok (.aload_n 0, 1) := by decide +kernel
theorem dL_placeOf_3 : decode cL_placeOf 3 = .ok (.iload_n 1, 1) := by decide +kernel
theorem dL_placeOf_4 : decode cL_placeOf 4 = .ok (.invokevirtual 33, 3) := by decide +kernel
theorem dL_placeOf_7 : decode cL_placeOf 7 = .ok (.i2l, 1) := by decide +kernel
theorem dL_placeOf_8 : decode cL_placeOf 8 = .ok (.lastore, 1) := by decide +kernel
theorem dL_placeOf_9 : decode cL_placeOf 9 = .ok (.goto 6, 3) := by decide +kernel
theorem dL_placeOf_12 : decode cL_placeOf 12 = .ok (.astore_n 3, 1) := by decide +kernel
theorem dL_placeOf_13 : decode cL_placeOf 13 = .ok (.iconst 1, 1) := by decide +kernel
theorem dL_placeOf_14 : decode cL_placeOf 14 = .ok (.ireturn, 1) := by decide +kernel
theorem dL_placeOf_15 : decode cL_placeOf 15 = .ok (.iconst 0, 1) := by decide +kernel
theorem dL_placeOf_16 : decode cL_placeOf 16 = .ok (.ireturn, 1) := by decide +kernel
set_option maxRecDepth 20000 in
theorem ggL_points_X2_points : GoodIn wsL_points wsX2_points := goodIn_ca (goodIn_r _ [6, 7, 8, 9, 10, 11, 5, 12, 13, 14, 15, 16, 17, 18, 19, 20, 21, 22, 23, 24, 25, 26, 27, 28, 29, 30, 31, 32, 33, 34] (by decide +kernel) (by decide +kernel)) (goodIn_sub (fun _ h => List.mem_cons_of_mem _ (List.mem_append_right _ h)) (by decide +kernel))
set_option maxRecDepth 20000 in
theorem gL_points_X2_points : GoodIn wsL_points (wsV RL 36 RX2 yX2_points wsX2_points) := goodIn_app (goodIn_of _ (by decide +kernel)) ggL_points_X2_points
theorem dL_points_0 : decode cL_points 0 = .ok (.aload_n 2, 1) := by decide +kernel
theorem dL_points_1 : decode cL_points 1 = .ok (.iconst 0, 1) := by decide +kernel
theorem dL_points_2 : decode cL_points 2 = .ok (.aload_n 0, 1) := by decide +kernel
theorem dL_points_3 : decode cL_points 3 = .ok (.iload_n 1, 1) := by decide +kernel
theorem dL_points_4 : decode cL_points 4 = .ok (.invokevirtual 36, 3) := by decide +kernel
theorem dL_points_7 : decode cL_points 7 = .ok (.i2l, 1) := by decide +kernel
theorem dL_points_8 : decode cL_points 8 = .ok (.lastore, 1) := by decide +kernel
theorem dL_points_9 : decode cL_points 9 = .ok (.goto 6, 3) := by decide +kernel
theorem dL_points_12 : decode cL_points 12 = .ok (.astore_n 3, 1) := by decide +kernel
theorem dL_points_13 : decode cL_points 13 = .ok (.iconst 1, 1) := by decide +kernel
theorem dL_points_14 : decode cL_points 14 = .ok (.ireturn, 1) := by decide +kernel
theorem dL_points_15 : decode cL_points 15 = .ok (.iconst 0, 1) := by decide +kernel
theorem dL_points_16 : decode cL_points 16 = .ok (.ireturn, 1) := by decide +kernel
set_option maxRecDepth 20000 in
theorem ggL_tricks_X2_tricks : GoodIn wsL_tricks wsX2_tricks := goodIn_ca (goodIn_r _ [6, 7, 8, 9, 10, 11, 5, 12, 13, 14, 15, 16, 17, 18, 19, 20, 21, 22, 23, 24, 25, 26, 27, 28, 29, 30, 31, 32, 33, 34] (by decide +kernel) (by decide +kernel)) (goodIn_sub (fun _ h => List.mem_cons_of_mem _ (List.mem_append_right _ h)) (by decide +kernel))
set_option maxRecDepth 20000 in
theorem gL_tricks_X2_tricks : GoodIn wsL_tricks (wsV RL 39 RX2 yX2_tricks wsX2_tricks) := goodIn_app (goodIn_of _ (by decide +kernel)) ggL_tricks_X2_tricks
theorem dL_tricks_0 : decode cL_tricks 0 = .ok (.aload_n 2, 1) := by decide +kernel
theorem dL_tricks_1 : decode cL_tricks 1 = .ok (.iconst 0, 1) := by decide +kernel
theorem dL_tricks_2 : decode cL_tricks 2 = .ok (.aload_n 0, 1) := by decide +kernel
theorem dL_tricks_3 : decode cL_tricks 3 = .ok (.iload_n 1, 1) := by decide +kernel
theorem dL_tricks_4 : decode cL_tricks 4 = .ok (.invokevirtual 39, 3) := by decide +kernel
theorem dL_tricks_7 : decode cL_tricks 7 = .ok (.i2l, 1) := by decide +kernel
theorem dL_tricks_8 : decode cL_tricks 8 = .ok (.lastore, 1) := by decide +kernel
theorem dL_tricks_9 : decode cL_tricks 9 = .ok (.goto 6, 3) := by decide +kernel
theorem dL_tricks_12 : decode cL_tricks 12 = .ok (.astore_n 3, 1) := by decide +kernel
theorem dL_tricks_13 : decode cL_tricks 13 = .ok (.iconst 1, 1) := by decide +kernel
theorem dL_tricks_14 : decode cL_tricks 14 = .ok (.ireturn, 1) := by decide +kernel
theorem dL_tricks_15 : decode cL_tricks 15 = .ok (.iconst 0, 1) := by decide +kernel
theorem dL_tricks_16 : decode cL_tricks 16 = .ok (.ireturn, 1) := by decide +kernel
set_option maxRecDepth 20000 in
theorem ggL_gloves_X2_gloves : GoodIn wsL_gloves wsX2_gloves := goodIn_ca (goodIn_r _ [6, 7, 8, 9, 10, 11, 5, 12, 13, 14, 15, 16, 17, 18, 19, 20, 21, 22, 23, 24, 25, 26, 27, 28, 29, 30, 31, 32, 33, 34] (by decide +kernel) (by decide +kernel)) (goodIn_sub (fun _ h => List.mem_cons_of_mem _ (List.mem_append_right _ h)) (by decide +kernel))
set_option maxRecDepth 20000 in
theorem gL_gloves_X2_gloves : GoodIn wsL_gloves (wsV RL 42 RX2 yX2_gloves wsX2_gloves) := goodIn_app (goodIn_of _ (by decide +kernel)) ggL_gloves_X2_gloves
theorem dL_gloves_0 : decode cL_gloves 0 = .ok (.aload_n 2, 1) := by decide +kernel
theorem dL_gloves_1 : decode cL_gloves 1 = .ok (.iconst 0, 1) := by decide +kernel
theorem dL_gloves_2 : decode cL_gloves 2 = .ok (.aload_n 0, 1) := by decide +kernel
theorem dL_gloves_3 : decode cL_gloves 3 = .ok (.iload_n 1, 1) := by decide +kernel
theorem dL_gloves_4 : decode cL_gloves 4 = .ok (.invokevirtual 42, 3) := by decide +kernel
theorem dL_gloves_7 : decode cL_gloves 7 = .ok (.i2l, 1) := by decide +kernel
theorem dL_gloves_8 : decode cL_gloves 8 = .ok (.lastore, 1) := by decide +kernel
theorem dL_gloves_9 : decode cL_gloves 9 = .ok (.goto 6, 3) := by decide +kernel
theorem dL_gloves_12 : decode cL_gloves 12 = .ok (.astore_n 3, 1) := by decide +kernel
theorem dL_gloves_13 : decode cL_gloves 13 = .ok (.iconst 1, 1) := by decide +kernel
theorem dL_gloves_14 : decode cL_gloves 14 = .ok (.ireturn, 1) := by decide +kernel
theorem dL_gloves_15 : decode cL_gloves 15 = .ok (.iconst 0, 1) := by decide +kernel
theorem dL_gloves_16 : decode cL_gloves 16 = .ok (.ireturn, 1) := by decide +kernel
set_option maxRecDepth 20000 in
theorem ggL_wouldTake_X2_wouldTake : GoodIn wsL_wouldTake wsX2_wouldTake := goodIn_ca (goodIn_ca (goodIn_r _ [7, 8, 9, 10, 11, 12, 13, 14, 6, 15, 16, 17, 18, 19, 20, 21, 22, 23, 24, 25, 26, 27, 28, 29, 30, 31, 32, 33, 34, 35, 36, 37, 38] (by decide +kernel) (by decide +kernel)) (goodIn_sub (fun _ h => List.mem_cons_of_mem _ (List.mem_append_left _ (List.mem_append_right _ h))) (by decide +kernel))) (goodIn_sub (fun _ h => List.mem_cons_of_mem _ (List.mem_append_right _ h)) (by decide +kernel))
set_option maxRecDepth 20000 in
theorem gL_wouldTake_X2_wouldTake : GoodIn wsL_wouldTake (wsV RL 45 RX2 yX2_wouldTake wsX2_wouldTake) := goodIn_app (goodIn_of _ (by decide +kernel)) ggL_wouldTake_X2_wouldTake
theorem dL_wouldTake_0 : decode cL_wouldTake 0 = .ok (.aload_n 2, 1) := by decide +kernel
theorem dL_wouldTake_1 : decode cL_wouldTake 1 = .ok (.iconst 0, 1) := by decide +kernel
theorem dL_wouldTake_2 : decode cL_wouldTake 2 = .ok (.aload_n 0, 1) := by decide +kernel
theorem dL_wouldTake_3 : decode cL_wouldTake 3 = .ok (.iload_n 1, 1) := by decide +kernel
theorem dL_wouldTake_4 : decode cL_wouldTake 4 = .ok (.invokevirtual 45, 3) := by decide +kernel
theorem dL_wouldTake_7 : decode cL_wouldTake 7 = .ok (.i2l, 1) := by decide +kernel
theorem dL_wouldTake_8 : decode cL_wouldTake 8 = .ok (.lastore, 1) := by decide +kernel
theorem dL_wouldTake_9 : decode cL_wouldTake 9 = .ok (.goto 9, 3) := by decide +kernel
theorem dL_wouldTake_12 : decode cL_wouldTake 12 = .ok (.astore_n 3, 1) := by decide +kernel
theorem dL_wouldTake_13 : decode cL_wouldTake 13 = .ok (.iconst 1, 1) := by decide +kernel
theorem dL_wouldTake_14 : decode cL_wouldTake 14 = .ok (.ireturn, 1) := by decide +kernel
theorem dL_wouldTake_15 : decode cL_wouldTake 15 = .ok (.astore_n 3, 1) := by decide +kernel
theorem dL_wouldTake_16 : decode cL_wouldTake 16 = .ok (.iconst 2, 1) := by decide +kernel
theorem dL_wouldTake_17 : decode cL_wouldTake 17 = .ok (.ireturn, 1) := by decide +kernel
theorem dL_wouldTake_18 : decode cL_wouldTake 18 = .ok (.iconst 0, 1) := by decide +kernel
theorem dL_wouldTake_19 : decode cL_wouldTake 19 = .ok (.ireturn, 1) := by decide +kernel
set_option maxRecDepth 20000 in
theorem ggL_best_X2_best : GoodIn wsL_best wsX2_best := goodIn_ca (goodIn_r _ [6, 7, 8, 9, 10, 11, 12, 13, 5, 14, 15, 16, 17, 18, 19, 20, 21, 22, 23, 24, 25, 26, 27, 28, 29, 30, 31, 32, 33, 34, 35, 36, 37, 38, 39, 40, 41, 42, 43, 44, 45, 46, 47, 48, 49, 50, 51, 52, 53, 54, 55, 56, 57, 58, 59, 60, 61, 62, 63, 64, 65, 66, 67, 68, 69, 70, 71, 72, 73, 74, 75, 76, 77, 78, 79, 80, 81, 82, 83, 84, 85, 86, 87, 88, 89, 90, 91, 92, 93, 94, 95, 96, 97, 98, 99, 100, 101, 102, 103, 104, 105, 106, 107, 108, 109, 110, 111, 112, 113, 114, 115, 116, 117, 118, 119, 120, 121, 122, 123, 124, 125, 126, 127, 128, 129, 130, 131, 132, 133, 134, 135, 136, 137, 138, 139] (by decide +kernel) (by decide +kernel)) (goodIn_sub (fun _ h => List.mem_cons_of_mem _ (List.mem_append_right _ h)) (by decide +kernel))
set_option maxRecDepth 20000 in
theorem gL_best_X2_best : GoodIn wsL_best (wsV RL 48 RX2 yX2_best wsX2_best) := goodIn_app (goodIn_of _ (by decide +kernel)) ggL_best_X2_best
theorem dL_best_0 : decode cL_best 0 = .ok (.aload_n 1, 1) := by decide +kernel
theorem dL_best_1 : decode cL_best 1 = .ok (.iconst 0, 1) := by decide +kernel
theorem dL_best_2 : decode cL_best 2 = .ok (.aload_n 0, 1) := by decide +kernel
theorem dL_best_3 : decode cL_best 3 = .ok (.invokevirtual 48, 3) := by decide +kernel
theorem dL_best_6 : decode cL_best 6 = .ok (.i2l, 1) := by decide +kernel
theorem dL_best_7 : decode cL_best 7 = .ok (.lastore, 1) := by decide +kernel
theorem dL_best_8 : decode cL_best 8 = .ok (.goto 6, 3) := by decide +kernel
theorem dL_best_11 : decode cL_best 11 = .ok (.astore_n 2, 1) := by decide +kernel
theorem dL_best_12 : decode cL_best 12 = .ok (.iconst 1, 1) := by decide +kernel
theorem dL_best_13 : decode cL_best 13 = .ok (.ireturn, 1) := by decide +kernel
theorem dL_best_14 : decode cL_best 14 = .ok (.iconst 0, 1) := by decide +kernel
theorem dL_best_15 : decode cL_best 15 = .ok (.ireturn, 1) := by decide +kernel
set_option maxRecDepth 20000 in
theorem ggL_bestCard_X2_bestCard : GoodIn wsL_bestCard wsX2_bestCard := goodIn_ca (goodIn_r _ [6, 7, 8, 9, 10, 11, 12, 13, 5, 14, 15, 16, 17, 18, 19, 20, 21, 22, 23, 24, 25, 26, 27, 28, 29, 30, 31, 32, 33, 34, 35, 36, 37, 38, 39, 40, 41, 42, 43, 44, 45, 46, 47, 48, 49, 50, 51, 52, 53, 54, 55, 56, 57, 58, 59, 60, 61, 62, 63, 64, 65, 66, 67, 68, 69, 70, 71, 72, 73, 74, 75, 76, 77, 78, 79, 80, 81, 82, 83, 84, 85, 86, 87, 88, 89, 90, 91, 92, 93, 94, 95, 96, 97, 98, 99, 100, 101, 102, 103, 104, 105, 106, 107, 108, 109, 110, 111, 112, 113, 114, 115, 116, 117, 118, 119, 120, 121, 122, 123, 124, 125, 126, 127, 128, 129, 130, 131, 132, 133, 134, 135, 136, 137, 138, 139] (by decide +kernel) (by decide +kernel)) (goodIn_sub (fun _ h => List.mem_cons_of_mem _ (List.mem_append_right _ h)) (by decide +kernel))
set_option maxRecDepth 20000 in
theorem gL_bestCard_X2_bestCard : GoodIn wsL_bestCard (wsV RL 51 RX2 yX2_bestCard wsX2_bestCard) := goodIn_app (goodIn_of _ (by decide +kernel)) ggL_bestCard_X2_bestCard
theorem dL_bestCard_0 : decode cL_bestCard 0 = .ok (.aload_n 1, 1) := by decide +kernel
theorem dL_bestCard_1 : decode cL_bestCard 1 = .ok (.iconst 0, 1) := by decide +kernel
theorem dL_bestCard_2 : decode cL_bestCard 2 = .ok (.aload_n 0, 1) := by decide +kernel
theorem dL_bestCard_3 : decode cL_bestCard 3 = .ok (.invokevirtual 51, 3) := by decide +kernel
theorem dL_bestCard_6 : decode cL_bestCard 6 = .ok (.i2l, 1) := by decide +kernel
theorem dL_bestCard_7 : decode cL_bestCard 7 = .ok (.lastore, 1) := by decide +kernel
theorem dL_bestCard_8 : decode cL_bestCard 8 = .ok (.goto 6, 3) := by decide +kernel
theorem dL_bestCard_11 : decode cL_bestCard 11 = .ok (.astore_n 2, 1) := by decide +kernel
theorem dL_bestCard_12 : decode cL_bestCard 12 = .ok (.iconst 1, 1) := by decide +kernel
theorem dL_bestCard_13 : decode cL_bestCard 13 = .ok (.ireturn, 1) := by decide +kernel
theorem dL_bestCard_14 : decode cL_bestCard 14 = .ok (.iconst 0, 1) := by decide +kernel
theorem dL_bestCard_15 : decode cL_bestCard 15 = .ok (.ireturn, 1) := by decide +kernel
