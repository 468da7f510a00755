set_option maxRecDepth 20000 in
theorem ggL_law_X2_init : GoodIn wsL_law wsX2_init := goodIn_r _ [10, 11, 12, 13, 14, 15, 16, 17, 18, 19, 20, 21, 22, 23, 24, 25, 26, 27, 28, 29, 30, 31, 32, 33, 34, 35, 36, 557, 558, 559, 560, 561, 562, 563, 564, 565, 566, 567, 583, 584, 585, 586, 587] (by decide +kernel) (by decide +kernel)
set_option maxRecDepth 20000 in
theorem gL_law_X2_init : GoodIn wsL_law (wsX2_init) := ggL_law_X2_init
set_option maxRecDepth 20000 in
theorem ggL_law_X3_init : GoodIn wsL_law wsX3_init := goodIn_r _ [39, 40, 12, 13, 14, 41, 42, 43, 44, 45, 46, 47, 48, 49, 50, 568, 569, 570, 571, 572, 573, 574, 575, 576, 577, 578, 579, 580, 581, 582] (by decide +kernel) (by decide +kernel)
set_option maxRecDepth 20000 in
theorem gL_law_X3_init : GoodIn wsL_law (wsX3_init) := ggL_law_X3_init
set_option maxRecDepth 20000 in
theorem ggL_law_X2_deal : GoodIn wsL_law wsX2_deal := goodIn_r _ [54, 15, 19, 20, 21, 22, 23, 24, 28, 55, 56, 57, 2, 58, 59, 60, 61, 62, 63, 64, 65, 66, 67, 68, 69, 70, 71, 72, 73, 74, 75, 76, 77, 78, 18, 79, 32, 33, 34, 35, 36, 80, 81, 82, 557, 558, 559, 560, 561, 562, 563, 564, 565, 566, 567, 583, 584, 585, 586, 587] (by decide +kernel) (by decide +kernel)
set_option maxRecDepth 20000 in
theorem gL_law_X2_deal : GoodIn wsL_law (wsV RL 60 RX2 yX2_deal wsX2_deal) := goodIn_app (goodIn_of _ (by decide +kernel)) ggL_law_X2_deal
set_option maxRecDepth 20000 in
theorem ggL_law_X3_deal : GoodIn wsL_law wsX3_deal := goodIn_r _ [86, 87, 42, 88, 89, 41, 44, 45, 46, 47, 90, 91, 43, 92, 93, 94, 95, 5, 96, 97, 98, 99, 568, 569, 570, 571, 572, 573, 574, 575, 576, 577, 578, 579, 580, 581, 582] (by decide +kernel) (by decide +kernel)
set_option maxRecDepth 20000 in
theorem gL_law_X3_deal : GoodIn wsL_law (wsV RL 64 RX3 yX3_deal wsX3_deal) := goodIn_app (goodIn_of _ (by decide +kernel)) ggL_law_X3_deal
set_option maxRecDepth 20000 in
theorem ggL_law_L_play : GoodIn wsL_law wsL_play := goodIn_ca (goodIn_ca (goodIn_r _ [103, 104, 105, 106, 107, 108, 2, 109, 110, 111, 112, 113, 24, 114, 115, 23, 116, 117, 118, 119, 120, 121, 122, 21, 22, 123, 124, 125, 126, 127, 128, 129, 130, 19, 20, 131, 132, 133, 73, 74, 75, 134, 135, 136, 137, 80, 81, 82, 138, 139, 140, 141, 142, 143, 144, 145, 146, 147, 148, 149, 150, 151, 152, 153, 154, 155, 156, 157, 158, 159, 160, 161, 162, 163, 164, 165, 18, 166, 36, 167, 168, 169, 170, 15, 171, 172, 173, 174, 25, 26, 557, 558, 559, 560, 561, 562, 563, 564, 565, 566, 567, 583, 584, 585, 586, 587] (by decide +kernel) (by decide +kernel)) (goodIn_sub (fun _ h => List.mem_append_left _ (List.mem_append_left _ (List.mem_append_right _ h))) (by decide +kernel))) (goodIn_sub (fun _ h => List.mem_append_left _ (List.mem_append_right _ h)) (by decide +kernel))
set_option maxRecDepth 20000 in
theorem gL_law_L_play : GoodIn wsL_law (va_wsS RL 65 yL_play wsL_play) := goodIn_app (goodIn_of _ (by decide +kernel)) ggL_law_L_play
set_option maxRecDepth 20000 in
theorem ggL_law_X3_play : GoodIn wsL_law wsX3_play := goodIn_r _ [178, 87, 43, 41, 91, 179, 180, 5, 181, 182, 183, 184, 185, 93, 44, 94, 95, 96, 186, 187, 188, 189, 190, 191, 192, 193, 97, 98, 99, 194, 195, 196, 197, 92, 90, 198, 199, 200, 201, 202, 203, 204, 205, 47, 45, 46, 48, 206, 207, 208, 209, 210, 211, 212, 213, 214, 215, 216, 217, 218, 219, 42, 220, 221, 222, 223, 568, 569, 570, 571, 572, 573, 574, 575, 576, 577, 578, 579, 580, 581, 582] (by decide +kernel) (by decide +kernel)
set_option maxRecDepth 20000 in
theorem gL_law_X3_play : GoodIn wsL_law (wsV RL 70 RX3 yX3_play wsX3_play) := goodIn_app (goodIn_of _ (by decide +kernel)) ggL_law_X3_play
set_option maxRecDepth 20000 in
theorem ggL_law_X3_thrown : GoodIn wsL_law wsX3_thrown := goodIn_r _ [227, 87, 568, 569, 570, 571, 572, 573, 574, 575, 576, 577, 578, 579, 580, 581, 582] (by decide +kernel) (by decide +kernel)
set_option maxRecDepth 20000 in
theorem gL_law_X3_thrown : GoodIn wsL_law (wsV RL 71 RX3 yX3_thrown wsX3_thrown) := goodIn_app (goodIn_of _ (by decide +kernel)) ggL_law_X3_thrown
set_option maxRecDepth 20000 in
theorem ggL_law_L_putOnGloves : GoodIn wsL_law wsL_putOnGloves := goodIn_ca (goodIn_r _ [230, 105, 231, 232, 233, 2, 234, 112, 113, 24, 149, 127, 128, 129, 130, 19, 20, 557, 558, 559, 560, 561, 562, 563, 564, 565, 566, 567, 583, 584, 585, 586, 587] (by decide +kernel) (by decide +kernel)) (goodIn_sub (fun _ h => List.mem_append_left _ (List.mem_append_right _ h)) (by decide +kernel))
set_option maxRecDepth 20000 in
theorem gL_law_L_putOnGloves : GoodIn wsL_law (va_wsS RL 74 yL_putOnGloves wsL_putOnGloves) := goodIn_app (goodIn_of _ (by decide +kernel)) ggL_law_L_putOnGloves
set_option maxRecDepth 20000 in
theorem ggL_law_X3_putOnGloves : GoodIn wsL_law wsX3_putOnGloves := goodIn_r _ [238, 93, 47, 91, 87, 568, 569, 570, 571, 572, 573, 574, 575, 576, 577, 578, 579, 580, 581, 582] (by decide +kernel) (by decide +kernel)
set_option maxRecDepth 20000 in
theorem gL_law_X3_putOnGloves : GoodIn wsL_law (wsV RL 77 RX3 yX3_putOnGloves wsX3_putOnGloves) := goodIn_app (goodIn_of _ (by decide +kernel)) ggL_law_X3_putOnGloves
set_option maxRecDepth 20000 in
theorem ggL_law_L_whyNot : GoodIn wsL_law wsL_whyNot := goodIn_ca (goodIn_r _ [241, 104, 242, 243, 244, 2, 245, 110, 111, 116, 117, 118, 119, 120, 121, 122, 24, 23, 21, 22, 123, 124, 125, 126, 114, 127, 128, 129, 130, 19, 20, 131, 132, 133, 73, 74, 75, 134, 135, 136, 137, 80, 81, 82, 138, 139, 140, 141, 142, 143, 144, 557, 558, 559, 560, 561, 562, 563, 564, 565, 566, 567, 583, 584, 585, 586, 587] (by decide +kernel) (by decide +kernel)) (goodIn_sub (fun _ h => List.mem_append_left _ (List.mem_append_left _ (List.mem_append_right _ h))) (by decide +kernel))
set_option maxRecDepth 20000 in
theorem gL_law_L_whyNot : GoodIn wsL_law (va_wsS RL 78 yL_whyNot wsL_whyNot) := goodIn_app (goodIn_of _ (by decide +kernel)) ggL_law_L_whyNot
set_option maxRecDepth 20000 in
theorem ggL_law_X3_whyNot : GoodIn wsL_law wsX3_whyNot := goodIn_r _ [249, 87, 179, 180, 5, 181, 182, 183, 184, 185, 93, 41, 91, 43, 44, 94, 95, 96, 186, 187, 188, 189, 190, 191, 192, 193, 97, 98, 99, 194, 195, 196, 197, 92, 90, 198, 199, 200, 201, 568, 569, 570, 571, 572, 573, 574, 575, 576, 577, 578, 579, 580, 581, 582] (by decide +kernel) (by decide +kernel)
set_option maxRecDepth 20000 in
theorem gL_law_X3_whyNot : GoodIn wsL_law (wsV RL 80 RX3 yX3_whyNot wsX3_whyNot) := goodIn_app (goodIn_of _ (by decide +kernel)) ggL_law_X3_whyNot
set_option maxRecDepth 20000 in
theorem ggL_law_X2_isPlaying : GoodIn wsL_law wsX2_isPlaying := goodIn_r _ [253, 24, 557, 558, 559, 560, 561, 562, 563, 564, 565, 566, 567] (by decide +kernel) (by decide +kernel)
set_option maxRecDepth 20000 in
theorem gL_law_X2_isPlaying : GoodIn wsL_law (wsV RL 81 RX2 yX2_isPlaying wsX2_isPlaying) := goodIn_app (goodIn_of _ (by decide +kernel)) ggL_law_X2_isPlaying
set_option maxRecDepth 20000 in
theorem ggL_law_X3_isPlaying : GoodIn wsL_law wsX3_isPlaying := goodIn_r _ [257, 87, 93, 568, 569, 570, 571, 572, 573, 574, 575, 576, 577, 578, 579, 580, 581, 582] (by decide +kernel) (by decide +kernel)
set_option maxRecDepth 20000 in
theorem gL_law_X3_isPlaying : GoodIn wsL_law (wsV RL 85 RX3 yX3_isPlaying wsX3_isPlaying) := goodIn_app (goodIn_of _ (by decide +kernel)) ggL_law_X3_isPlaying
set_option maxRecDepth 20000 in
theorem ggL_law_X2_turn : GoodIn wsL_law wsX2_turn := goodIn_r _ [261, 24, 557, 558, 559, 560, 561, 562, 563, 564, 565, 566, 567] (by decide +kernel) (by decide +kernel)
set_option maxRecDepth 20000 in
theorem gL_law_X2_turn : GoodIn wsL_law (wsV RL 86 RX2 yX2_turn wsX2_turn) := goodIn_app (goodIn_of _ (by decide +kernel)) ggL_law_X2_turn
set_option maxRecDepth 20000 in
theorem ggL_law_X3_turn : GoodIn wsL_law wsX3_turn := goodIn_r _ [265, 87, 93, 91, 568, 569, 570, 571, 572, 573, 574, 575, 576, 577, 578, 579, 580, 581, 582] (by decide +kernel) (by decide +kernel)
set_option maxRecDepth 20000 in
theorem gL_law_X3_turn : GoodIn wsL_law (wsV RL 89 RX3 yX3_turn wsX3_turn) := goodIn_app (goodIn_of _ (by decide +kernel)) ggL_law_X3_turn
set_option maxRecDepth 20000 in
theorem ggL_law_X2_led : GoodIn wsL_law wsX2_led := goodIn_r _ [269, 23, 557, 558, 559, 560, 561, 562, 563, 564, 565, 566, 567] (by decide +kernel) (by decide +kernel)
set_option maxRecDepth 20000 in
theorem gL_law_X2_led : GoodIn wsL_law (wsV RL 90 RX2 yX2_led wsX2_led) := goodIn_app (goodIn_of _ (by decide +kernel)) ggL_law_X2_led
set_option maxRecDepth 20000 in
theorem ggL_law_X3_led : GoodIn wsL_law wsX3_led := goodIn_r _ [273, 87, 43, 568, 569, 570, 571, 572, 573, 574, 575, 576, 577, 578, 579, 580, 581, 582] (by decide +kernel) (by decide +kernel)
set_option maxRecDepth 20000 in
theorem gL_law_X3_led : GoodIn wsL_law (wsV RL 93 RX3 yX3_led wsX3_led) := goodIn_app (goodIn_of _ (by decide +kernel)) ggL_law_X3_led
set_option maxRecDepth 20000 in
theorem ggL_law_X2_trumps : GoodIn wsL_law wsX2_trumps := goodIn_r _ [277, 22, 557, 558, 559, 560, 561, 562, 563, 564, 565, 566, 567] (by decide +kernel) (by decide +kernel)
set_option maxRecDepth 20000 in
theorem gL_law_X2_trumps : GoodIn wsL_law (wsV RL 94 RX2 yX2_trumps wsX2_trumps) := goodIn_app (goodIn_of _ (by decide +kernel)) ggL_law_X2_trumps
set_option maxRecDepth 20000 in
theorem ggL_law_X3_trumps : GoodIn wsL_law wsX3_trumps := goodIn_r _ [281, 87, 44, 568, 569, 570, 571, 572, 573, 574, 575, 576, 577, 578, 579, 580, 581, 582] (by decide +kernel) (by decide +kernel)
set_option maxRecDepth 20000 in
theorem gL_law_X3_trumps : GoodIn wsL_law (wsV RL 97 RX3 yX3_trumps wsX3_trumps) := goodIn_app (goodIn_of _ (by decide +kernel)) ggL_law_X3_trumps
set_option maxRecDepth 20000 in
theorem ggL_law_X2_pile : GoodIn wsL_law wsX2_pile := goodIn_r _ [285, 21, 557, 558, 559, 560, 561, 562, 563, 564, 565, 566, 567] (by decide +kernel) (by decide +kernel)
set_option maxRecDepth 20000 in
theorem gL_law_X2_pile : GoodIn wsL_law (wsV RL 98 RX2 yX2_pile wsX2_pile) := goodIn_app (goodIn_of _ (by decide +kernel)) ggL_law_X2_pile
set_option maxRecDepth 20000 in
theorem ggL_law_X3_pile : GoodIn wsL_law wsX3_pile := goodIn_r _ [289, 87, 194, 195, 196, 5, 197, 92, 90, 568, 569, 570, 571, 572, 573, 574, 575, 576, 577, 578, 579, 580, 581, 582] (by decide +kernel) (by decide +kernel)
set_option maxRecDepth 20000 in
theorem gL_law_X3_pile : GoodIn wsL_law (wsV RL 101 RX3 yX3_pile wsX3_pile) := goodIn_app (goodIn_of _ (by decide +kernel)) ggL_law_X3_pile
set_option maxRecDepth 20000 in
theorem ggL_law_L_cards : GoodIn wsL_law wsL_cards := goodIn_ca (goodIn_r _ [292, 293, 294, 295, 296, 2, 297, 298, 299, 114, 300, 301, 302, 127, 128, 129, 130, 19, 20, 303, 304, 305, 306, 307, 308, 309, 583, 584, 585, 586, 587, 557, 558, 559, 560, 561, 562, 563, 564, 565, 566, 567] (by decide +kernel) (by decide +kernel)) (goodIn_sub (fun _ h => List.mem_append_right _ h) (by decide +kernel))
set_option maxRecDepth 20000 in
theorem gL_law_L_cards : GoodIn wsL_law (va_wsS RL 102 yL_cards wsL_cards) := goodIn_app (goodIn_of _ (by decide +kernel)) ggL_law_L_cards
set_option maxRecDepth 20000 in
theorem ggL_law_X3_cards : GoodIn wsL_law wsX3_cards := goodIn_r _ [313, 87, 314, 315, 5, 316, 220, 221, 222, 223, 92, 41, 568, 569, 570, 571, 572, 573, 574, 575, 576, 577, 578, 579, 580, 581, 582] (by decide +kernel) (by decide +kernel)
set_option maxRecDepth 20000 in
theorem gL_law_X3_cards : GoodIn wsL_law (wsV RL 104 RX3 yX3_cards wsX3_cards) := goodIn_app (goodIn_of _ (by decide +kernel)) ggL_law_X3_cards
set_option maxRecDepth 20000 in
theorem ggL_law_L_cardAt : GoodIn wsL_law wsL_cardAt := goodIn_ca (goodIn_r _ [319, 293, 320, 321, 322, 2, 323, 298, 299, 114, 300, 301, 302, 127, 128, 129, 130, 19, 20, 131, 132, 133, 73, 74, 75, 583, 584, 585, 586, 587, 557, 558, 559, 560, 561, 562, 563, 564, 565, 566, 567] (by decide +kernel) (by decide +kernel)) (goodIn_sub (fun _ h => List.mem_append_right _ h) (by decide +kernel))
set_option maxRecDepth 20000 in
theorem gL_law_L_cardAt : GoodIn wsL_law (va_wsS RL 105 yL_cardAt wsL_cardAt) := goodIn_app (goodIn_of _ (by decide +kernel)) ggL_law_L_cardAt
set_option maxRecDepth 20000 in
theorem ggL_law_X3_cardAt : GoodIn wsL_law wsX3_cardAt := goodIn_r _ [327, 87, 92, 41, 314, 315, 5, 316, 568, 569, 570, 571, 572, 573, 574, 575, 576, 577, 578, 579, 580, 581, 582] (by decide +kernel) (by decide +kernel)
set_option maxRecDepth 20000 in
theorem gL_law_X3_cardAt : GoodIn wsL_law (wsV RL 108 RX3 yX3_cardAt wsX3_cardAt) := goodIn_app (goodIn_of _ (by decide +kernel)) ggL_law_X3_cardAt
set_option maxRecDepth 20000 in
theorem ggL_law_L_placeOf : GoodIn wsL_law wsL_placeOf := goodIn_ca (goodIn_r _ [330, 104, 331, 332, 333, 2, 334, 110, 111, 22, 19, 114, 20, 152, 23, 116, 117, 118, 131, 132, 133, 73, 74, 75, 557, 558, 559, 560, 561, 562, 563, 564, 565, 566, 567, 583, 584, 585, 586, 587] (by decide +kernel) (by decide +kernel)) (goodIn_sub (fun _ h => List.mem_append_left _ (List.mem_append_left _ (List.mem_append_right _ h))) (by decide +kernel))
set_option maxRecDepth 20000 in
theorem gL_law_L_placeOf : GoodIn wsL_law (va_wsS RL 109 yL_placeOf wsL_placeOf) := goodIn_app (goodIn_of _ (by decide +kernel)) ggL_law_L_placeOf
set_option maxRecDepth 20000 in
theorem ggL_law_X3_placeOf : GoodIn wsL_law wsX3_placeOf := goodIn_r _ [338, 87, 92, 41, 179, 180, 5, 181, 568, 569, 570, 571, 572, 573, 574, 575, 576, 577, 578, 579, 580, 581, 582] (by decide +kernel) (by decide +kernel)
set_option maxRecDepth 20000 in
theorem gL_law_X3_placeOf : GoodIn wsL_law (wsV RL 111 RX3 yX3_placeOf wsX3_placeOf) := goodIn_app (goodIn_of _ (by decide +kernel)) ggL_law_X3_placeOf
set_option maxRecDepth 20000 in
theorem ggL_law_L_points : GoodIn wsL_law wsL_points := goodIn_ca (goodIn_r _ [341, 293, 342, 343, 344, 2, 345, 298, 299, 150, 300, 301, 302, 127, 128, 129, 130, 19, 20, 583, 584, 585, 586, 587, 557, 558, 559, 560, 561, 562, 563, 564, 565, 566, 567] (by decide +kernel) (by decide +kernel)) (goodIn_sub (fun _ h => List.mem_append_right _ h) (by decide +kernel))
set_option maxRecDepth 20000 in
theorem gL_law_L_points : GoodIn wsL_law (va_wsS RL 112 yL_points wsL_points) := goodIn_app (goodIn_of _ (by decide +kernel)) ggL_law_L_points
set_option maxRecDepth 20000 in
theorem ggL_law_X3_points : GoodIn wsL_law wsX3_points := goodIn_r _ [349, 45, 350, 351, 352, 5, 353, 87, 314, 315, 316, 568, 569, 570, 571, 572, 573, 574, 575, 576, 577, 578, 579, 580, 581, 582] (by decide +kernel) (by decide +kernel)
set_option maxRecDepth 20000 in
theorem gL_law_X3_points : GoodIn wsL_law (wsV RL 114 RX3 yX3_points wsX3_points) := goodIn_app (goodIn_of _ (by decide +kernel)) ggL_law_X3_points
set_option maxRecDepth 20000 in
theorem ggL_law_L_tricks : GoodIn wsL_law wsL_tricks := goodIn_ca (goodIn_r _ [356, 293, 357, 358, 359, 2, 360, 298, 299, 151, 300, 301, 302, 127, 128, 129, 130, 19, 20, 583, 584, 585, 586, 587, 557, 558, 559, 560, 561, 562, 563, 564, 565, 566, 567] (by decide +kernel) (by decide +kernel)) (goodIn_sub (fun _ h => List.mem_append_right _ h) (by decide +kernel))
set_option maxRecDepth 20000 in
theorem gL_law_L_tricks : GoodIn wsL_law (va_wsS RL 115 yL_tricks wsL_tricks) := goodIn_app (goodIn_of _ (by decide +kernel)) ggL_law_L_tricks
set_option maxRecDepth 20000 in
theorem ggL_law_X3_tricks : GoodIn wsL_law wsX3_tricks := goodIn_r _ [364, 46, 350, 351, 352, 5, 353, 87, 314, 315, 316, 568, 569, 570, 571, 572, 573, 574, 575, 576, 577, 578, 579, 580, 581, 582] (by decide +kernel) (by decide +kernel)
set_option maxRecDepth 20000 in
theorem gL_law_X3_tricks : GoodIn wsL_law (wsV RL 117 RX3 yX3_tricks wsX3_tricks) := goodIn_app (goodIn_of _ (by decide +kernel)) ggL_law_X3_tricks
set_option maxRecDepth 20000 in
theorem ggL_law_L_gloves : GoodIn wsL_law wsL_gloves := goodIn_ca (goodIn_r _ [367, 293, 368, 369, 370, 2, 371, 298, 299, 149, 300, 301, 302, 127, 128, 129, 130, 19, 20, 583, 584, 585, 586, 587, 557, 558, 559, 560, 561, 562, 563, 564, 565, 566, 567] (by decide +kernel) (by decide +kernel)) (goodIn_sub (fun _ h => List.mem_append_right _ h) (by decide +kernel))
set_option maxRecDepth 20000 in
theorem gL_law_L_gloves : GoodIn wsL_law (va_wsS RL 118 yL_gloves wsL_gloves) := goodIn_app (goodIn_of _ (by decide +kernel)) ggL_law_L_gloves
set_option maxRecDepth 20000 in
theorem ggL_law_X3_gloves : GoodIn wsL_law wsX3_gloves := goodIn_r _ [375, 47, 350, 351, 352, 5, 353, 87, 314, 315, 316, 568, 569, 570, 571, 572, 573, 574, 575, 576, 577, 578, 579, 580, 581, 582] (by decide +kernel) (by decide +kernel)
set_option maxRecDepth 20000 in
theorem gL_law_X3_gloves : GoodIn wsL_law (wsV RL 120 RX3 yX3_gloves wsX3_gloves) := goodIn_app (goodIn_of _ (by decide +kernel)) ggL_law_X3_gloves
set_option maxRecDepth 20000 in
theorem ggL_law_X2_choices : GoodIn wsL_law wsX2_choices := goodIn_r _ [379, 119, 120, 121, 2, 122, 24, 23, 21, 22, 123, 124, 125, 126, 114, 127, 128, 129, 130, 19, 20, 131, 132, 133, 73, 74, 75, 134, 135, 136, 137, 80, 81, 82, 138, 139, 140, 141, 142, 143, 144, 557, 558, 559, 560, 561, 562, 563, 564, 565, 566, 567, 583, 584, 585, 586, 587] (by decide +kernel) (by decide +kernel)
set_option maxRecDepth 20000 in
theorem gL_law_X2_choices : GoodIn wsL_law (wsV RL 121 RX2 yX2_choices wsX2_choices) := goodIn_app (goodIn_of _ (by decide +kernel)) ggL_law_X2_choices
set_option maxRecDepth 20000 in
theorem ggL_law_X3_choices : GoodIn wsL_law wsX3_choices := goodIn_r _ [383, 87, 182, 183, 184, 5, 185, 93, 41, 91, 43, 44, 94, 95, 96, 186, 187, 188, 189, 190, 191, 192, 193, 97, 98, 99, 194, 195, 196, 197, 92, 90, 198, 199, 200, 201, 568, 569, 570, 571, 572, 573, 574, 575, 576, 577, 578, 579, 580, 581, 582] (by decide +kernel) (by decide +kernel)
set_option maxRecDepth 20000 in
theorem gL_law_X3_choices : GoodIn wsL_law (wsV RL 124 RX3 yX3_choices wsX3_choices) := goodIn_app (goodIn_of _ (by decide +kernel)) ggL_law_X3_choices
set_option maxRecDepth 20000 in
theorem ggL_law_L_wouldTake : GoodIn wsL_law wsL_wouldTake := goodIn_ca (goodIn_ca (goodIn_r _ [386, 104, 105, 387, 388, 389, 2, 390, 110, 111, 112, 113, 23, 116, 117, 118, 153, 154, 155, 156, 22, 24, 157, 158, 159, 80, 81, 82, 557, 558, 559, 560, 561, 562, 563, 564, 565, 566, 567] (by decide +kernel) (by decide +kernel)) (goodIn_sub (fun _ h => List.mem_append_left _ (List.mem_append_left _ (List.mem_append_right _ h))) (by decide +kernel))) (goodIn_sub (fun _ h => List.mem_append_left _ (List.mem_append_right _ h)) (by decide +kernel))
set_option maxRecDepth 20000 in
theorem gL_law_L_wouldTake : GoodIn wsL_law (va_wsS RL 125 yL_wouldTake wsL_wouldTake) := goodIn_app (goodIn_of _ (by decide +kernel)) ggL_law_L_wouldTake
set_option maxRecDepth 20000 in
theorem ggL_law_X3_wouldTake : GoodIn wsL_law wsX3_wouldTake := goodIn_r _ [394, 43, 87, 91, 179, 180, 5, 181, 206, 207, 208, 209, 94, 95, 96, 97, 98, 99, 198, 199, 200, 201, 44, 568, 569, 570, 571, 572, 573, 574, 575, 576, 577, 578, 579, 580, 581, 582] (by decide +kernel) (by decide +kernel)
set_option maxRecDepth 20000 in
theorem gL_law_X3_wouldTake : GoodIn wsL_law (wsV RL 127 RX3 yX3_wouldTake wsX3_wouldTake) := goodIn_app (goodIn_of _ (by decide +kernel)) ggL_law_X3_wouldTake
set_option maxRecDepth 20000 in
theorem ggL_law_L_best : GoodIn wsL_law wsL_best := goodIn_ca (goodIn_r _ [397, 105, 398, 399, 400, 2, 401, 112, 113, 23, 24, 402, 403, 404, 405, 21, 406, 407, 408, 409, 27, 410, 411, 412, 28, 19, 114, 20, 22, 413, 414, 415, 12, 13, 14, 416, 417, 418, 419, 420, 421, 422, 423, 424, 425, 426, 427, 123, 124, 125, 126, 127, 128, 129, 130, 428, 429, 430, 431, 432, 433, 434, 435, 149, 436, 437, 438, 439, 440, 441, 442, 443, 444, 445, 446, 447, 448, 449, 450, 451, 132, 133, 73, 74, 75, 135, 136, 137, 80, 81, 82, 139, 140, 141, 142, 143, 144, 131, 452, 453, 454, 455, 456, 158, 159, 457, 458, 459, 161, 162, 460, 461, 462, 463, 464, 465, 466, 467, 468, 469, 470, 557, 558, 559, 560, 561, 562, 563, 564, 565, 566, 567, 588, 589, 590, 591, 583, 584, 585, 586, 587] (by decide +kernel) (by decide +kernel)) (goodIn_sub (fun _ h => List.mem_append_left _ (List.mem_append_right _ h)) (by decide +kernel))
set_option maxRecDepth 20000 in
theorem gL_law_L_best : GoodIn wsL_law (va_wsS RL 128 yL_best wsL_best) := goodIn_app (goodIn_of _ (by decide +kernel)) ggL_law_L_best
set_option maxRecDepth 20000 in
theorem ggL_law_X3_best : GoodIn wsL_law wsX3_best := goodIn_r _ [474, 475, 476, 477, 5, 478, 93, 87, 91, 49, 194, 195, 196, 197, 92, 90, 479, 480, 481, 482, 50, 483, 484, 485, 486, 41, 220, 221, 222, 223, 487, 488, 489, 490, 491, 492, 493, 494, 495, 496, 497, 94, 95, 96, 498, 499, 500, 501, 97, 98, 99, 502, 503, 504, 505, 506, 507, 508, 509, 44, 198, 199, 200, 201, 510, 511, 512, 513, 206, 207, 208, 209, 210, 211, 212, 213, 214, 215, 514, 515, 516, 517, 182, 183, 184, 185, 43, 186, 187, 188, 189, 190, 191, 192, 193, 518, 519, 520, 521, 522, 523, 524, 525, 47, 568, 569, 570, 571, 572, 573, 574, 575, 576, 577, 578, 579, 580, 581, 582] (by decide +kernel) (by decide +kernel)
set_option maxRecDepth 20000 in
theorem gL_law_X3_best : GoodIn wsL_law (wsV RL 130 RX3 yX3_best wsX3_best) := goodIn_app (goodIn_of _ (by decide +kernel)) ggL_law_X3_best
set_option maxRecDepth 20000 in
theorem ggL_law_L_bestCard : GoodIn wsL_law wsL_bestCard := goodIn_ca (goodIn_r _ [528, 105, 529, 530, 531, 2, 532, 112, 113, 23, 24, 402, 403, 404, 405, 21, 406, 407, 408, 409, 27, 410, 411, 412, 28, 19, 114, 20, 22, 413, 414, 415, 12, 13, 14, 416, 417, 418, 419, 420, 421, 422, 423, 424, 425, 426, 427, 123, 124, 125, 126, 127, 128, 129, 130, 428, 429, 430, 431, 432, 433, 434, 435, 149, 533, 534, 535, 536, 448, 449, 450, 451, 132, 133, 73, 74, 75, 135, 136, 137, 80, 81, 82, 139, 140, 141, 142, 143, 144, 131, 452, 453, 454, 455, 456, 440, 441, 442, 158, 159, 457, 458, 459, 161, 162, 460, 461, 462, 443, 444, 445, 446, 447, 463, 464, 465, 466, 467, 468, 469, 470, 557, 558, 559, 560, 561, 562, 563, 564, 565, 566, 567, 588, 589, 590, 591, 583, 584, 585, 586, 587] (by decide +kernel) (by decide +kernel)) (goodIn_sub (fun _ h => List.mem_append_left _ (List.mem_append_right _ h)) (by decide +kernel))
set_option maxRecDepth 20000 in
theorem gL_law_L_bestCard : GoodIn wsL_law (va_wsS RL 131 yL_bestCard wsL_bestCard) := goodIn_app (goodIn_of _ (by decide +kernel)) ggL_law_L_bestCard
set_option maxRecDepth 20000 in
theorem ggL_law_X3_bestCard : GoodIn wsL_law wsX3_bestCard := goodIn_r _ [540, 49, 91, 475, 476, 477, 5, 478, 93, 87, 194, 195, 196, 197, 92, 90, 479, 480, 481, 482, 50, 483, 484, 485, 486, 41, 220, 221, 222, 223, 487, 488, 489, 490, 491, 492, 493, 494, 495, 496, 497, 94, 95, 96, 498, 499, 500, 501, 97, 98, 99, 502, 503, 504, 505, 506, 507, 508, 509, 44, 198, 199, 200, 201, 510, 511, 512, 513, 206, 207, 208, 209, 210, 211, 212, 213, 214, 215, 514, 515, 516, 517, 182, 183, 184, 185, 43, 186, 187, 188, 189, 190, 191, 192, 193, 518, 519, 520, 521, 522, 523, 524, 525, 47, 568, 569, 570, 571, 572, 573, 574, 575, 576, 577, 578, 579, 580, 581, 582] (by decide +kernel) (by decide +kernel)
set_option maxRecDepth 20000 in
theorem gL_law_X3_bestCard : GoodIn wsL_law (wsV RL 133 RX3 yX3_bestCard wsX3_bestCard) := goodIn_app (goodIn_of _ (by decide +kernel)) ggL_law_X3_bestCard
set_option maxRecDepth 20000 in
theorem ggL_law_X2_wonByFirst : GoodIn wsL_law wsX2_wonByFirst := goodIn_r _ [544, 25, 557, 558, 559, 560, 561, 562, 563, 564, 565, 566, 567] (by decide +kernel) (by decide +kernel)
set_option maxRecDepth 20000 in
theorem gL_law_X2_wonByFirst : GoodIn wsL_law (wsV RL 134 RX2 yX2_wonByFirst wsX2_wonByFirst) := goodIn_app (goodIn_of _ (by decide +kernel)) ggL_law_X2_wonByFirst
set_option maxRecDepth 20000 in
theorem ggL_law_X3_wonByFirst : GoodIn wsL_law wsX3_wonByFirst := goodIn_r _ [548, 87, 48, 568, 569, 570, 571, 572, 573, 574, 575, 576, 577, 578, 579, 580, 581, 582] (by decide +kernel) (by decide +kernel)
set_option maxRecDepth 20000 in
theorem gL_law_X3_wonByFirst : GoodIn wsL_law (wsV RL 137 RX3 yX3_wonByFirst wsX3_wonByFirst) := goodIn_app (goodIn_of _ (by decide +kernel)) ggL_law_X3_wonByFirst
set_option maxRecDepth 20000 in
theorem ggL_law_X2_wonBySecond : GoodIn wsL_law wsX2_wonBySecond := goodIn_r _ [552, 26, 557, 558, 559, 560, 561, 562, 563, 564, 565, 566, 567] (by decide +kernel) (by decide +kernel)
set_option maxRecDepth 20000 in
theorem gL_law_X2_wonBySecond : GoodIn wsL_law (wsV RL 138 RX2 yX2_wonBySecond wsX2_wonBySecond) := goodIn_app (goodIn_of _ (by decide +kernel)) ggL_law_X2_wonBySecond
set_option maxRecDepth 20000 in
theorem ggL_law_X3_wonBySecond : GoodIn wsL_law wsX3_wonBySecond := goodIn_r _ [556, 87, 48, 568, 569, 570, 571, 572, 573, 574, 575, 576, 577, 578, 579, 580, 581, 582] (by decide +kernel) (by decide +kernel)
set_option maxRecDepth 20000 in
theorem gL_law_X3_wonBySecond : GoodIn wsL_law (wsV RL 141 RX3 yX3_wonBySecond wsX3_wonBySecond) := goodIn_app (goodIn_of _ (by decide +kernel)) ggL_law_X3_wonBySecond
