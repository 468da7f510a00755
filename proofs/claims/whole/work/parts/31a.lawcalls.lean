set_option maxRecDepth 20000 in
theorem ggL_law_X2_init : GoodIn wsL_law wsX2_init := goodIn_r _ [10, 11, 12, 13, 14, 15, 16, 17, 18, 19, 20, 21, 22, 23, 24, 25, 26, 27, 28, 29, 30, 31, 32, 33, 34, 35, 36, 561, 562, 563, 564, 565, 566, 567, 568, 569, 570, 571, 587, 588, 589, 590, 591] (by decide +kernel) (by decide +kernel)
set_option maxRecDepth 20000 in
theorem gL_law_X2_init : GoodIn wsL_law (wsX2_init) := ggL_law_X2_init
set_option maxRecDepth 20000 in
theorem ggL_law_X3_init : GoodIn wsL_law wsX3_init := goodIn_r _ [39, 40, 12, 13, 14, 41, 42, 43, 44, 45, 46, 47, 48, 49, 50, 572, 573, 574, 575, 576, 577, 578, 579, 580, 581, 582, 583, 584, 585, 586] (by decide +kernel) (by decide +kernel)
set_option maxRecDepth 20000 in
theorem gL_law_X3_init : GoodIn wsL_law (wsX3_init) := ggL_law_X3_init
set_option maxRecDepth 20000 in
theorem ggL_law_X2_deal : GoodIn wsL_law wsX2_deal := goodIn_r _ [54, 15, 19, 20, 21, 22, 23, 24, 28, 55, 56, 57, 2, 58, 59, 60, 61, 62, 63, 64, 65, 66, 67, 68, 69, 70, 71, 72, 73, 74, 75, 76, 77, 78, 79, 80, 81, 82, 18, 83, 32, 33, 34, 35, 36, 84, 85, 86, 561, 562, 563, 564, 565, 566, 567, 568, 569, 570, 571, 587, 588, 589, 590, 591] (by decide +kernel) (by decide +kernel)
set_option maxRecDepth 20000 in
theorem gL_law_X2_deal : GoodIn wsL_law (wsV RL 60 RX2 yX2_deal wsX2_deal) := goodIn_app (goodIn_of _ (by decide +kernel)) ggL_law_X2_deal
set_option maxRecDepth 20000 in
theorem ggL_law_X3_deal : GoodIn wsL_law wsX3_deal := goodIn_r _ [90, 91, 42, 92, 93, 41, 44, 45, 46, 47, 94, 95, 43, 96, 97, 98, 99, 5, 100, 101, 102, 103, 572, 573, 574, 575, 576, 577, 578, 579, 580, 581, 582, 583, 584, 585, 586] (by decide +kernel) (by decide +kernel)
set_option maxRecDepth 20000 in
theorem gL_law_X3_deal : GoodIn wsL_law (wsV RL 64 RX3 yX3_deal wsX3_deal) := goodIn_app (goodIn_of _ (by decide +kernel)) ggL_law_X3_deal
set_option maxRecDepth 20000 in
theorem ggL_law_L_play : GoodIn wsL_law wsL_play := goodIn_ca (goodIn_ca (goodIn_r _ [107, 108, 109, 110, 111, 112, 2, 113, 114, 115, 116, 117, 24, 118, 119, 23, 120, 121, 122, 123, 124, 125, 126, 21, 22, 127, 128, 129, 130, 131, 132, 133, 134, 19, 20, 135, 136, 137, 138, 139, 140, 141, 84, 85, 86, 142, 143, 144, 145, 146, 147, 148, 77, 78, 79, 149, 150, 151, 152, 153, 154, 155, 156, 157, 158, 159, 160, 161, 162, 163, 164, 165, 166, 167, 168, 169, 18, 170, 36, 171, 172, 173, 174, 15, 175, 176, 177, 178, 25, 26, 561, 562, 563, 564, 565, 566, 567, 568, 569, 570, 571, 587, 588, 589, 590, 591] (by decide +kernel) (by decide +kernel)) (goodIn_sub (fun _ h => List.mem_append_left _ (List.mem_append_left _ (List.mem_append_right _ h))) (by decide +kernel))) (goodIn_sub (fun _ h => List.mem_append_left _ (List.mem_append_right _ h)) (by decide +kernel))
set_option maxRecDepth 20000 in
theorem gL_law_L_play : GoodIn wsL_law (va_wsS RL 65 yL_play wsL_play) := goodIn_app (goodIn_of _ (by decide +kernel)) ggL_law_L_play
set_option maxRecDepth 20000 in
theorem ggL_law_X3_play : GoodIn wsL_law wsX3_play := goodIn_r _ [182, 91, 43, 41, 95, 183, 184, 5, 185, 186, 187, 188, 189, 97, 44, 98, 99, 100, 190, 191, 192, 193, 194, 195, 196, 197, 101, 102, 103, 198, 199, 200, 201, 96, 94, 202, 203, 204, 205, 206, 207, 208, 209, 47, 45, 46, 48, 210, 211, 212, 213, 214, 215, 216, 217, 218, 219, 220, 221, 222, 223, 42, 224, 225, 226, 227, 572, 573, 574, 575, 576, 577, 578, 579, 580, 581, 582, 583, 584, 585, 586] (by decide +kernel) (by decide +kernel)
set_option maxRecDepth 20000 in
theorem gL_law_X3_play : GoodIn wsL_law (wsV RL 70 RX3 yX3_play wsX3_play) := goodIn_app (goodIn_of _ (by decide +kernel)) ggL_law_X3_play
set_option maxRecDepth 20000 in
theorem ggL_law_X3_thrown : GoodIn wsL_law wsX3_thrown := goodIn_r _ [231, 91, 572, 573, 574, 575, 576, 577, 578, 579, 580, 581, 582, 583, 584, 585, 586] (by decide +kernel) (by decide +kernel)
set_option maxRecDepth 20000 in
theorem gL_law_X3_thrown : GoodIn wsL_law (wsV RL 71 RX3 yX3_thrown wsX3_thrown) := goodIn_app (goodIn_of _ (by decide +kernel)) ggL_law_X3_thrown
set_option maxRecDepth 20000 in
theorem ggL_law_L_putOnGloves : GoodIn wsL_law wsL_putOnGloves := goodIn_ca (goodIn_r _ [234, 109, 235, 236, 237, 2, 238, 116, 117, 24, 153, 131, 132, 133, 134, 19, 20, 561, 562, 563, 564, 565, 566, 567, 568, 569, 570, 571, 587, 588, 589, 590, 591] (by decide +kernel) (by decide +kernel)) (goodIn_sub (fun _ h => List.mem_append_left _ (List.mem_append_right _ h)) (by decide +kernel))
set_option maxRecDepth 20000 in
theorem gL_law_L_putOnGloves : GoodIn wsL_law (va_wsS RL 74 yL_putOnGloves wsL_putOnGloves) := goodIn_app (goodIn_of _ (by decide +kernel)) ggL_law_L_putOnGloves
set_option maxRecDepth 20000 in
theorem ggL_law_X3_putOnGloves : GoodIn wsL_law wsX3_putOnGloves := goodIn_r _ [242, 97, 47, 95, 91, 572, 573, 574, 575, 576, 577, 578, 579, 580, 581, 582, 583, 584, 585, 586] (by decide +kernel) (by decide +kernel)
set_option maxRecDepth 20000 in
theorem gL_law_X3_putOnGloves : GoodIn wsL_law (wsV RL 77 RX3 yX3_putOnGloves wsX3_putOnGloves) := goodIn_app (goodIn_of _ (by decide +kernel)) ggL_law_X3_putOnGloves
set_option maxRecDepth 20000 in
theorem ggL_law_L_whyNot : GoodIn wsL_law wsL_whyNot := goodIn_ca (goodIn_r _ [245, 108, 246, 247, 248, 2, 249, 114, 115, 120, 121, 122, 123, 124, 125, 126, 24, 23, 21, 22, 127, 128, 129, 130, 118, 131, 132, 133, 134, 19, 20, 135, 136, 137, 138, 139, 140, 141, 84, 85, 86, 142, 143, 144, 145, 146, 147, 148, 561, 562, 563, 564, 565, 566, 567, 568, 569, 570, 571, 587, 588, 589, 590, 591] (by decide +kernel) (by decide +kernel)) (goodIn_sub (fun _ h => List.mem_append_left _ (List.mem_append_left _ (List.mem_append_right _ h))) (by decide +kernel))
set_option maxRecDepth 20000 in
theorem gL_law_L_whyNot : GoodIn wsL_law (va_wsS RL 78 yL_whyNot wsL_whyNot) := goodIn_app (goodIn_of _ (by decide +kernel)) ggL_law_L_whyNot
set_option maxRecDepth 20000 in
theorem ggL_law_X3_whyNot : GoodIn wsL_law wsX3_whyNot := goodIn_r _ [253, 91, 183, 184, 5, 185, 186, 187, 188, 189, 97, 41, 95, 43, 44, 98, 99, 100, 190, 191, 192, 193, 194, 195, 196, 197, 101, 102, 103, 198, 199, 200, 201, 96, 94, 202, 203, 204, 205, 572, 573, 574, 575, 576, 577, 578, 579, 580, 581, 582, 583, 584, 585, 586] (by decide +kernel) (by decide +kernel)
set_option maxRecDepth 20000 in
theorem gL_law_X3_whyNot : GoodIn wsL_law (wsV RL 80 RX3 yX3_whyNot wsX3_whyNot) := goodIn_app (goodIn_of _ (by decide +kernel)) ggL_law_X3_whyNot
set_option maxRecDepth 20000 in
theorem ggL_law_X2_isPlaying : GoodIn wsL_law wsX2_isPlaying := goodIn_r _ [257, 24, 561, 562, 563, 564, 565, 566, 567, 568, 569, 570, 571] (by decide +kernel) (by decide +kernel)
set_option maxRecDepth 20000 in
theorem gL_law_X2_isPlaying : GoodIn wsL_law (wsV RL 81 RX2 yX2_isPlaying wsX2_isPlaying) := goodIn_app (goodIn_of _ (by decide +kernel)) ggL_law_X2_isPlaying
set_option maxRecDepth 20000 in
theorem ggL_law_X3_isPlaying : GoodIn wsL_law wsX3_isPlaying := goodIn_r _ [261, 91, 97, 572, 573, 574, 575, 576, 577, 578, 579, 580, 581, 582, 583, 584, 585, 586] (by decide +kernel) (by decide +kernel)
set_option maxRecDepth 20000 in
theorem gL_law_X3_isPlaying : GoodIn wsL_law (wsV RL 85 RX3 yX3_isPlaying wsX3_isPlaying) := goodIn_app (goodIn_of _ (by decide +kernel)) ggL_law_X3_isPlaying
set_option maxRecDepth 20000 in
theorem ggL_law_X2_turn : GoodIn wsL_law wsX2_turn := goodIn_r _ [265, 24, 561, 562, 563, 564, 565, 566, 567, 568, 569, 570, 571] (by decide +kernel) (by decide +kernel)
set_option maxRecDepth 20000 in
theorem gL_law_X2_turn : GoodIn wsL_law (wsV RL 86 RX2 yX2_turn wsX2_turn) := goodIn_app (goodIn_of _ (by decide +kernel)) ggL_law_X2_turn
set_option maxRecDepth 20000 in
theorem ggL_law_X3_turn : GoodIn wsL_law wsX3_turn := goodIn_r _ [269, 91, 97, 95, 572, 573, 574, 575, 576, 577, 578, 579, 580, 581, 582, 583, 584, 585, 586] (by decide +kernel) (by decide +kernel)
set_option maxRecDepth 20000 in
theorem gL_law_X3_turn : GoodIn wsL_law (wsV RL 89 RX3 yX3_turn wsX3_turn) := goodIn_app (goodIn_of _ (by decide +kernel)) ggL_law_X3_turn
set_option maxRecDepth 20000 in
theorem ggL_law_X2_led : GoodIn wsL_law wsX2_led := goodIn_r _ [273, 23, 561, 562, 563, 564, 565, 566, 567, 568, 569, 570, 571] (by decide +kernel) (by decide +kernel)
set_option maxRecDepth 20000 in
theorem gL_law_X2_led : GoodIn wsL_law (wsV RL 90 RX2 yX2_led wsX2_led) := goodIn_app (goodIn_of _ (by decide +kernel)) ggL_law_X2_led
set_option maxRecDepth 20000 in
theorem ggL_law_X3_led : GoodIn wsL_law wsX3_led := goodIn_r _ [277, 91, 43, 572, 573, 574, 575, 576, 577, 578, 579, 580, 581, 582, 583, 584, 585, 586] (by decide +kernel) (by decide +kernel)
set_option maxRecDepth 20000 in
theorem gL_law_X3_led : GoodIn wsL_law (wsV RL 93 RX3 yX3_led wsX3_led) := goodIn_app (goodIn_of _ (by decide +kernel)) ggL_law_X3_led
set_option maxRecDepth 20000 in
theorem ggL_law_X2_trumps : GoodIn wsL_law wsX2_trumps := goodIn_r _ [281, 22, 561, 562, 563, 564, 565, 566, 567, 568, 569, 570, 571] (by decide +kernel) (by decide +kernel)
set_option maxRecDepth 20000 in
theorem gL_law_X2_trumps : GoodIn wsL_law (wsV RL 94 RX2 yX2_trumps wsX2_trumps) := goodIn_app (goodIn_of _ (by decide +kernel)) ggL_law_X2_trumps
set_option maxRecDepth 20000 in
theorem ggL_law_X3_trumps : GoodIn wsL_law wsX3_trumps := goodIn_r _ [285, 91, 44, 572, 573, 574, 575, 576, 577, 578, 579, 580, 581, 582, 583, 584, 585, 586] (by decide +kernel) (by decide +kernel)
set_option maxRecDepth 20000 in
theorem gL_law_X3_trumps : GoodIn wsL_law (wsV RL 97 RX3 yX3_trumps wsX3_trumps) := goodIn_app (goodIn_of _ (by decide +kernel)) ggL_law_X3_trumps
set_option maxRecDepth 20000 in
theorem ggL_law_X2_pile : GoodIn wsL_law wsX2_pile := goodIn_r _ [289, 21, 561, 562, 563, 564, 565, 566, 567, 568, 569, 570, 571] (by decide +kernel) (by decide +kernel)
set_option maxRecDepth 20000 in
theorem gL_law_X2_pile : GoodIn wsL_law (wsV RL 98 RX2 yX2_pile wsX2_pile) := goodIn_app (goodIn_of _ (by decide +kernel)) ggL_law_X2_pile
set_option maxRecDepth 20000 in
theorem ggL_law_X3_pile : GoodIn wsL_law wsX3_pile := goodIn_r _ [293, 91, 198, 199, 200, 5, 201, 96, 94, 572, 573, 574, 575, 576, 577, 578, 579, 580, 581, 582, 583, 584, 585, 586] (by decide +kernel) (by decide +kernel)
set_option maxRecDepth 20000 in
theorem gL_law_X3_pile : GoodIn wsL_law (wsV RL 101 RX3 yX3_pile wsX3_pile) := goodIn_app (goodIn_of _ (by decide +kernel)) ggL_law_X3_pile
set_option maxRecDepth 20000 in
theorem ggL_law_L_cards : GoodIn wsL_law wsL_cards := goodIn_ca (goodIn_r _ [296, 297, 298, 299, 300, 2, 301, 302, 303, 118, 304, 305, 306, 131, 132, 133, 134, 19, 20, 307, 308, 309, 310, 311, 312, 313, 587, 588, 589, 590, 591, 561, 562, 563, 564, 565, 566, 567, 568, 569, 570, 571] (by decide +kernel) (by decide +kernel)) (goodIn_sub (fun _ h => List.mem_append_right _ h) (by decide +kernel))
set_option maxRecDepth 20000 in
theorem gL_law_L_cards : GoodIn wsL_law (va_wsS RL 102 yL_cards wsL_cards) := goodIn_app (goodIn_of _ (by decide +kernel)) ggL_law_L_cards
set_option maxRecDepth 20000 in
theorem ggL_law_X3_cards : GoodIn wsL_law wsX3_cards := goodIn_r _ [317, 91, 318, 319, 5, 320, 224, 225, 226, 227, 96, 41, 572, 573, 574, 575, 576, 577, 578, 579, 580, 581, 582, 583, 584, 585, 586] (by decide +kernel) (by decide +kernel)
set_option maxRecDepth 20000 in
theorem gL_law_X3_cards : GoodIn wsL_law (wsV RL 104 RX3 yX3_cards wsX3_cards) := goodIn_app (goodIn_of _ (by decide +kernel)) ggL_law_X3_cards
set_option maxRecDepth 20000 in
theorem ggL_law_L_cardAt : GoodIn wsL_law wsL_cardAt := goodIn_ca (goodIn_r _ [323, 297, 324, 325, 326, 2, 327, 302, 303, 118, 304, 305, 306, 131, 132, 133, 134, 19, 20, 135, 136, 137, 587, 588, 589, 590, 591, 561, 562, 563, 564, 565, 566, 567, 568, 569, 570, 571] (by decide +kernel) (by decide +kernel)) (goodIn_sub (fun _ h => List.mem_append_right _ h) (by decide +kernel))
set_option maxRecDepth 20000 in
theorem gL_law_L_cardAt : GoodIn wsL_law (va_wsS RL 105 yL_cardAt wsL_cardAt) := goodIn_app (goodIn_of _ (by decide +kernel)) ggL_law_L_cardAt
set_option maxRecDepth 20000 in
theorem ggL_law_X3_cardAt : GoodIn wsL_law wsX3_cardAt := goodIn_r _ [331, 91, 96, 41, 318, 319, 5, 320, 572, 573, 574, 575, 576, 577, 578, 579, 580, 581, 582, 583, 584, 585, 586] (by decide +kernel) (by decide +kernel)
set_option maxRecDepth 20000 in
theorem gL_law_X3_cardAt : GoodIn wsL_law (wsV RL 108 RX3 yX3_cardAt wsX3_cardAt) := goodIn_app (goodIn_of _ (by decide +kernel)) ggL_law_X3_cardAt
set_option maxRecDepth 20000 in
theorem ggL_law_L_placeOf : GoodIn wsL_law wsL_placeOf := goodIn_ca (goodIn_r _ [334, 108, 335, 336, 337, 2, 338, 114, 115, 22, 19, 118, 20, 156, 23, 120, 121, 122, 135, 136, 137, 561, 562, 563, 564, 565, 566, 567, 568, 569, 570, 571, 587, 588, 589, 590, 591] (by decide +kernel) (by decide +kernel)) (goodIn_sub (fun _ h => List.mem_append_left _ (List.mem_append_left _ (List.mem_append_right _ h))) (by decide +kernel))
set_option maxRecDepth 20000 in
theorem gL_law_L_placeOf : GoodIn wsL_law (va_wsS RL 109 yL_placeOf wsL_placeOf) := goodIn_app (goodIn_of _ (by decide +kernel)) ggL_law_L_placeOf
set_option maxRecDepth 20000 in
theorem ggL_law_X3_placeOf : GoodIn wsL_law wsX3_placeOf := goodIn_r _ [342, 91, 96, 41, 183, 184, 5, 185, 572, 573, 574, 575, 576, 577, 578, 579, 580, 581, 582, 583, 584, 585, 586] (by decide +kernel) (by decide +kernel)
set_option maxRecDepth 20000 in
theorem gL_law_X3_placeOf : GoodIn wsL_law (wsV RL 111 RX3 yX3_placeOf wsX3_placeOf) := goodIn_app (goodIn_of _ (by decide +kernel)) ggL_law_X3_placeOf
set_option maxRecDepth 20000 in
theorem ggL_law_L_points : GoodIn wsL_law wsL_points := goodIn_ca (goodIn_r _ [345, 297, 346, 347, 348, 2, 349, 302, 303, 154, 304, 305, 306, 131, 132, 133, 134, 19, 20, 587, 588, 589, 590, 591, 561, 562, 563, 564, 565, 566, 567, 568, 569, 570, 571] (by decide +kernel) (by decide +kernel)) (goodIn_sub (fun _ h => List.mem_append_right _ h) (by decide +kernel))
set_option maxRecDepth 20000 in
theorem gL_law_L_points : GoodIn wsL_law (va_wsS RL 112 yL_points wsL_points) := goodIn_app (goodIn_of _ (by decide +kernel)) ggL_law_L_points
set_option maxRecDepth 20000 in
theorem ggL_law_X3_points : GoodIn wsL_law wsX3_points := goodIn_r _ [353, 45, 354, 355, 356, 5, 357, 91, 318, 319, 320, 572, 573, 574, 575, 576, 577, 578, 579, 580, 581, 582, 583, 584, 585, 586] (by decide +kernel) (by decide +kernel)
set_option maxRecDepth 20000 in
theorem gL_law_X3_points : GoodIn wsL_law (wsV RL 114 RX3 yX3_points wsX3_points) := goodIn_app (goodIn_of _ (by decide +kernel)) ggL_law_X3_points
set_option maxRecDepth 20000 in
theorem ggL_law_L_tricks : GoodIn wsL_law wsL_tricks := goodIn_ca (goodIn_r _ [360, 297, 361, 362, 363, 2, 364, 302, 303, 155, 304, 305, 306, 131, 132, 133, 134, 19, 20, 587, 588, 589, 590, 591, 561, 562, 563, 564, 565, 566, 567, 568, 569, 570, 571] (by decide +kernel) (by decide +kernel)) (goodIn_sub (fun _ h => List.mem_append_right _ h) (by decide +kernel))
set_option maxRecDepth 20000 in
theorem gL_law_L_tricks : GoodIn wsL_law (va_wsS RL 115 yL_tricks wsL_tricks) := goodIn_app (goodIn_of _ (by decide +kernel)) ggL_law_L_tricks
set_option maxRecDepth 20000 in
theorem ggL_law_X3_tricks : GoodIn wsL_law wsX3_tricks := goodIn_r _ [368, 46, 354, 355, 356, 5, 357, 91, 318, 319, 320, 572, 573, 574, 575, 576, 577, 578, 579, 580, 581, 582, 583, 584, 585, 586] (by decide +kernel) (by decide +kernel)
set_option maxRecDepth 20000 in
theorem gL_law_X3_tricks : GoodIn wsL_law (wsV RL 117 RX3 yX3_tricks wsX3_tricks) := goodIn_app (goodIn_of _ (by decide +kernel)) ggL_law_X3_tricks
set_option maxRecDepth 20000 in
theorem ggL_law_L_gloves : GoodIn wsL_law wsL_gloves := goodIn_ca (goodIn_r _ [371, 297, 372, 373, 374, 2, 375, 302, 303, 153, 304, 305, 306, 131, 132, 133, 134, 19, 20, 587, 588, 589, 590, 591, 561, 562, 563, 564, 565, 566, 567, 568, 569, 570, 571] (by decide +kernel) (by decide +kernel)) (goodIn_sub (fun _ h => List.mem_append_right _ h) (by decide +kernel))
set_option maxRecDepth 20000 in
theorem gL_law_L_gloves : GoodIn wsL_law (va_wsS RL 118 yL_gloves wsL_gloves) := goodIn_app (goodIn_of _ (by decide +kernel)) ggL_law_L_gloves
set_option maxRecDepth 20000 in
theorem ggL_law_X3_gloves : GoodIn wsL_law wsX3_gloves := goodIn_r _ [379, 47, 354, 355, 356, 5, 357, 91, 318, 319, 320, 572, 573, 574, 575, 576, 577, 578, 579, 580, 581, 582, 583, 584, 585, 586] (by decide +kernel) (by decide +kernel)
set_option maxRecDepth 20000 in
theorem gL_law_X3_gloves : GoodIn wsL_law (wsV RL 120 RX3 yX3_gloves wsX3_gloves) := goodIn_app (goodIn_of _ (by decide +kernel)) ggL_law_X3_gloves
set_option maxRecDepth 20000 in
theorem ggL_law_X2_choices : GoodIn wsL_law wsX2_choices := goodIn_r _ [383, 123, 124, 125, 2, 126, 24, 23, 21, 22, 127, 128, 129, 130, 118, 131, 132, 133, 134, 19, 20, 135, 136, 137, 138, 139, 140, 141, 84, 85, 86, 142, 143, 144, 145, 146, 147, 148, 561, 562, 563, 564, 565, 566, 567, 568, 569, 570, 571, 587, 588, 589, 590, 591] (by decide +kernel) (by decide +kernel)
set_option maxRecDepth 20000 in
theorem gL_law_X2_choices : GoodIn wsL_law (wsV RL 121 RX2 yX2_choices wsX2_choices) := goodIn_app (goodIn_of _ (by decide +kernel)) ggL_law_X2_choices
set_option maxRecDepth 20000 in
theorem ggL_law_X3_choices : GoodIn wsL_law wsX3_choices := goodIn_r _ [387, 91, 186, 187, 188, 5, 189, 97, 41, 95, 43, 44, 98, 99, 100, 190, 191, 192, 193, 194, 195, 196, 197, 101, 102, 103, 198, 199, 200, 201, 96, 94, 202, 203, 204, 205, 572, 573, 574, 575, 576, 577, 578, 579, 580, 581, 582, 583, 584, 585, 586] (by decide +kernel) (by decide +kernel)
set_option maxRecDepth 20000 in
theorem gL_law_X3_choices : GoodIn wsL_law (wsV RL 124 RX3 yX3_choices wsX3_choices) := goodIn_app (goodIn_of _ (by decide +kernel)) ggL_law_X3_choices
set_option maxRecDepth 20000 in
theorem ggL_law_L_wouldTake : GoodIn wsL_law wsL_wouldTake := goodIn_ca (goodIn_ca (goodIn_r _ [390, 108, 109, 391, 392, 393, 2, 394, 114, 115, 116, 117, 23, 120, 121, 122, 157, 158, 159, 160, 22, 24, 161, 162, 163, 84, 85, 86, 561, 562, 563, 564, 565, 566, 567, 568, 569, 570, 571] (by decide +kernel) (by decide +kernel)) (goodIn_sub (fun _ h => List.mem_append_left _ (List.mem_append_left _ (List.mem_append_right _ h))) (by decide +kernel))) (goodIn_sub (fun _ h => List.mem_append_left _ (List.mem_append_right _ h)) (by decide +kernel))
set_option maxRecDepth 20000 in
theorem gL_law_L_wouldTake : GoodIn wsL_law (va_wsS RL 125 yL_wouldTake wsL_wouldTake) := goodIn_app (goodIn_of _ (by decide +kernel)) ggL_law_L_wouldTake
set_option maxRecDepth 20000 in
theorem ggL_law_X3_wouldTake : GoodIn wsL_law wsX3_wouldTake := goodIn_r _ [398, 43, 91, 95, 183, 184, 5, 185, 210, 211, 212, 213, 98, 99, 100, 101, 102, 103, 202, 203, 204, 205, 44, 572, 573, 574, 575, 576, 577, 578, 579, 580, 581, 582, 583, 584, 585, 586] (by decide +kernel) (by decide +kernel)
set_option maxRecDepth 20000 in
theorem gL_law_X3_wouldTake : GoodIn wsL_law (wsV RL 127 RX3 yX3_wouldTake wsX3_wouldTake) := goodIn_app (goodIn_of _ (by decide +kernel)) ggL_law_X3_wouldTake
set_option maxRecDepth 20000 in
theorem ggL_law_L_best : GoodIn wsL_law wsL_best := goodIn_ca (goodIn_r _ [401, 109, 402, 403, 404, 2, 405, 116, 117, 23, 24, 406, 407, 408, 409, 21, 410, 411, 412, 413, 27, 414, 415, 416, 28, 19, 118, 20, 22, 417, 418, 419, 12, 13, 14, 420, 421, 422, 423, 424, 425, 426, 427, 428, 429, 430, 431, 127, 128, 129, 130, 131, 132, 133, 134, 432, 433, 434, 435, 436, 437, 438, 439, 153, 440, 441, 442, 443, 444, 445, 446, 447, 448, 449, 450, 451, 452, 453, 454, 455, 136, 137, 139, 140, 141, 84, 85, 86, 143, 144, 145, 146, 147, 148, 135, 456, 457, 458, 459, 460, 78, 79, 162, 163, 461, 462, 463, 165, 166, 464, 465, 466, 467, 468, 469, 470, 471, 472, 473, 474, 561, 562, 563, 564, 565, 566, 567, 568, 569, 570, 571, 592, 593, 594, 595, 587, 588, 589, 590, 591] (by decide +kernel) (by decide +kernel)) (goodIn_sub (fun _ h => List.mem_append_left _ (List.mem_append_right _ h)) (by decide +kernel))
set_option maxRecDepth 20000 in
theorem gL_law_L_best : GoodIn wsL_law (va_wsS RL 128 yL_best wsL_best) := goodIn_app (goodIn_of _ (by decide +kernel)) ggL_law_L_best
set_option maxRecDepth 20000 in
theorem ggL_law_X3_best : GoodIn wsL_law wsX3_best := goodIn_r _ [478, 479, 480, 481, 5, 482, 97, 91, 95, 49, 198, 199, 200, 201, 96, 94, 483, 484, 485, 486, 50, 487, 488, 489, 490, 41, 224, 225, 226, 227, 491, 492, 493, 494, 495, 496, 497, 498, 499, 500, 501, 98, 99, 100, 502, 503, 504, 505, 101, 102, 103, 506, 507, 508, 509, 510, 511, 512, 513, 44, 202, 203, 204, 205, 514, 515, 516, 517, 210, 211, 212, 213, 214, 215, 216, 217, 218, 219, 518, 519, 520, 521, 186, 187, 188, 189, 43, 190, 191, 192, 193, 194, 195, 196, 197, 522, 523, 524, 525, 526, 527, 528, 529, 47, 572, 573, 574, 575, 576, 577, 578, 579, 580, 581, 582, 583, 584, 585, 586] (by decide +kernel) (by decide +kernel)
set_option maxRecDepth 20000 in
theorem gL_law_X3_best : GoodIn wsL_law (wsV RL 130 RX3 yX3_best wsX3_best) := goodIn_app (goodIn_of _ (by decide +kernel)) ggL_law_X3_best
set_option maxRecDepth 20000 in
theorem ggL_law_L_bestCard : GoodIn wsL_law wsL_bestCard := goodIn_ca (goodIn_r _ [532, 109, 533, 534, 535, 2, 536, 116, 117, 23, 24, 406, 407, 408, 409, 21, 410, 411, 412, 413, 27, 414, 415, 416, 28, 19, 118, 20, 22, 417, 418, 419, 12, 13, 14, 420, 421, 422, 423, 424, 425, 426, 427, 428, 429, 430, 431, 127, 128, 129, 130, 131, 132, 133, 134, 432, 433, 434, 435, 436, 437, 438, 439, 153, 537, 538, 539, 540, 452, 453, 454, 455, 136, 137, 139, 140, 141, 84, 85, 86, 143, 144, 145, 146, 147, 148, 135, 456, 457, 458, 459, 460, 78, 79, 444, 445, 446, 162, 163, 461, 462, 463, 165, 166, 464, 465, 466, 447, 448, 449, 450, 451, 467, 468, 469, 470, 471, 472, 473, 474, 561, 562, 563, 564, 565, 566, 567, 568, 569, 570, 571, 592, 593, 594, 595, 587, 588, 589, 590, 591] (by decide +kernel) (by decide +kernel)) (goodIn_sub (fun _ h => List.mem_append_left _ (List.mem_append_right _ h)) (by decide +kernel))
set_option maxRecDepth 20000 in
theorem gL_law_L_bestCard : GoodIn wsL_law (va_wsS RL 131 yL_bestCard wsL_bestCard) := goodIn_app (goodIn_of _ (by decide +kernel)) ggL_law_L_bestCard
set_option maxRecDepth 20000 in
theorem ggL_law_X3_bestCard : GoodIn wsL_law wsX3_bestCard := goodIn_r _ [544, 49, 95, 479, 480, 481, 5, 482, 97, 91, 198, 199, 200, 201, 96, 94, 483, 484, 485, 486, 50, 487, 488, 489, 490, 41, 224, 225, 226, 227, 491, 492, 493, 494, 495, 496, 497, 498, 499, 500, 501, 98, 99, 100, 502, 503, 504, 505, 101, 102, 103, 506, 507, 508, 509, 510, 511, 512, 513, 44, 202, 203, 204, 205, 514, 515, 516, 517, 210, 211, 212, 213, 214, 215, 216, 217, 218, 219, 518, 519, 520, 521, 186, 187, 188, 189, 43, 190, 191, 192, 193, 194, 195, 196, 197, 522, 523, 524, 525, 526, 527, 528, 529, 47, 572, 573, 574, 575, 576, 577, 578, 579, 580, 581, 582, 583, 584, 585, 586] (by decide +kernel) (by decide +kernel)
set_option maxRecDepth 20000 in
theorem gL_law_X3_bestCard : GoodIn wsL_law (wsV RL 133 RX3 yX3_bestCard wsX3_bestCard) := goodIn_app (goodIn_of _ (by decide +kernel)) ggL_law_X3_bestCard
set_option maxRecDepth 20000 in
theorem ggL_law_X2_wonByFirst : GoodIn wsL_law wsX2_wonByFirst := goodIn_r _ [548, 25, 561, 562, 563, 564, 565, 566, 567, 568, 569, 570, 571] (by decide +kernel) (by decide +kernel)
set_option maxRecDepth 20000 in
theorem gL_law_X2_wonByFirst : GoodIn wsL_law (wsV RL 134 RX2 yX2_wonByFirst wsX2_wonByFirst) := goodIn_app (goodIn_of _ (by decide +kernel)) ggL_law_X2_wonByFirst
set_option maxRecDepth 20000 in
theorem ggL_law_X3_wonByFirst : GoodIn wsL_law wsX3_wonByFirst := goodIn_r _ [552, 91, 48, 572, 573, 574, 575, 576, 577, 578, 579, 580, 581, 582, 583, 584, 585, 586] (by decide +kernel) (by decide +kernel)
set_option maxRecDepth 20000 in
theorem gL_law_X3_wonByFirst : GoodIn wsL_law (wsV RL 137 RX3 yX3_wonByFirst wsX3_wonByFirst) := goodIn_app (goodIn_of _ (by decide +kernel)) ggL_law_X3_wonByFirst
set_option maxRecDepth 20000 in
theorem ggL_law_X2_wonBySecond : GoodIn wsL_law wsX2_wonBySecond := goodIn_r _ [556, 26, 561, 562, 563, 564, 565, 566, 567, 568, 569, 570, 571] (by decide +kernel) (by decide +kernel)
set_option maxRecDepth 20000 in
theorem gL_law_X2_wonBySecond : GoodIn wsL_law (wsV RL 138 RX2 yX2_wonBySecond wsX2_wonBySecond) := goodIn_app (goodIn_of _ (by decide +kernel)) ggL_law_X2_wonBySecond
set_option maxRecDepth 20000 in
theorem ggL_law_X3_wonBySecond : GoodIn wsL_law wsX3_wonBySecond := goodIn_r _ [560, 91, 48, 572, 573, 574, 575, 576, 577, 578, 579, 580, 581, 582, 583, 584, 585, 586] (by decide +kernel) (by decide +kernel)
set_option maxRecDepth 20000 in
theorem gL_law_X3_wonBySecond : GoodIn wsL_law (wsV RL 141 RX3 yX3_wonBySecond wsX3_wonBySecond) := goodIn_app (goodIn_of _ (by decide +kernel)) ggL_law_X3_wonBySecond
