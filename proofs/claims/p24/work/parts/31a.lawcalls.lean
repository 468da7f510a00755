set_option maxRecDepth 20000 in
theorem ggL_law_X2_init : GoodIn wsL_law wsX2_init := goodIn_r _ [7, 8, 9, 10, 11, 12, 13, 14, 15, 16, 17, 18, 19, 20, 21, 22, 23, 24, 25, 26, 27, 28, 29, 30, 31, 32, 33, 233, 234, 235, 236, 237, 238, 239, 240, 241, 242, 243, 244, 245, 246, 247, 248] (by decide +kernel) (by decide +kernel)
set_option maxRecDepth 20000 in
theorem gL_law_X2_init : GoodIn wsL_law (wsX2_init) := ggL_law_X2_init
set_option maxRecDepth 20000 in
theorem ggL_law_L_drawn : GoodIn wsL_law wsL_drawn := goodIn_r _ [37, 38] (by decide +kernel) (by decide +kernel)
set_option maxRecDepth 20000 in
theorem gL_law_L_drawn : GoodIn wsL_law (va_wsS RL 50 yL_drawn wsL_drawn) := goodIn_app (goodIn_of _ (by decide +kernel)) ggL_law_L_drawn
set_option maxRecDepth 20000 in
theorem ggL_law_X2_deal : GoodIn wsL_law wsX2_deal := goodIn_r _ [42, 12, 16, 17, 18, 19, 20, 21, 25, 43, 44, 45, 2, 46, 47, 48, 49, 50, 51, 52, 53, 54, 55, 56, 57, 58, 59, 60, 61, 62, 63, 64, 65, 66, 67, 68, 69, 70, 15, 71, 29, 30, 31, 32, 33, 72, 73, 74, 233, 234, 235, 236, 237, 238, 239, 240, 241, 242, 243, 244, 245, 246, 247, 248] (by decide +kernel) (by decide +kernel)
set_option maxRecDepth 20000 in
theorem gL_law_X2_deal : GoodIn wsL_law (wsV RL 56 RX2 yX2_deal wsX2_deal) := goodIn_app (goodIn_of _ (by decide +kernel)) ggL_law_X2_deal
set_option maxRecDepth 20000 in
theorem ggL_law_X2_trumps : GoodIn wsL_law wsX2_trumps := goodIn_r _ [78, 19, 233, 234, 235, 236, 237, 238, 239, 240, 241, 242, 243] (by decide +kernel) (by decide +kernel)
set_option maxRecDepth 20000 in
theorem gL_law_X2_trumps : GoodIn wsL_law (wsV RL 60 RX2 yX2_trumps wsX2_trumps) := goodIn_app (goodIn_of _ (by decide +kernel)) ggL_law_X2_trumps
set_option maxRecDepth 20000 in
theorem ggL_law_X2_pile : GoodIn wsL_law wsX2_pile := goodIn_r _ [82, 18, 233, 234, 235, 236, 237, 238, 239, 240, 241, 242, 243] (by decide +kernel) (by decide +kernel)
set_option maxRecDepth 20000 in
theorem gL_law_X2_pile : GoodIn wsL_law (wsV RL 26 RX2 yX2_pile wsX2_pile) := goodIn_app (goodIn_of _ (by decide +kernel)) ggL_law_X2_pile
set_option maxRecDepth 20000 in
theorem ggL_law_X2_turn : GoodIn wsL_law wsX2_turn := goodIn_r _ [86, 21, 233, 234, 235, 236, 237, 238, 239, 240, 241, 242, 243] (by decide +kernel) (by decide +kernel)
set_option maxRecDepth 20000 in
theorem gL_law_X2_turn : GoodIn wsL_law (wsV RL 39 RX2 yX2_turn wsX2_turn) := goodIn_app (goodIn_of _ (by decide +kernel)) ggL_law_X2_turn
set_option maxRecDepth 20000 in
theorem ggL_law_L_isLaidRight : GoodIn wsL_law wsL_isLaidRight := goodIn_ca (goodIn_ca (goodIn_r _ [89, 90, 91, 92, 2, 93, 94, 95, 19, 16, 96, 17, 97, 20, 98, 99, 100, 101, 102, 103, 104, 105, 36, 106, 107, 108, 109, 110, 111, 112, 113, 114, 115, 116, 117, 118, 119, 120, 121, 122, 123, 124, 125, 126, 127, 128, 129, 130, 79, 80, 81, 82, 18, 131, 132, 133, 134, 135, 136, 137, 138, 139, 140, 141, 142, 143, 144, 83, 84, 85, 86, 21, 233, 234, 235, 236, 237, 238, 239, 240, 241, 242, 243, 244, 245, 246, 247, 248] (by decide +kernel) (by decide +kernel)) (goodIn_sub (fun _ h => List.mem_append_left _ (List.mem_append_left _ (List.mem_append_right _ h))) (by decide +kernel))) (goodIn_sub (fun _ h => List.mem_append_left _ (List.mem_append_right _ h)) (by decide +kernel))
set_option maxRecDepth 20000 in
theorem gL_law_L_isLaidRight : GoodIn wsL_law (va_wsS RL 63 yL_isLaidRight wsL_isLaidRight) := goodIn_app (goodIn_of _ (by decide +kernel)) ggL_law_L_isLaidRight
set_option maxRecDepth 20000 in
theorem ggL_law_X2_isPlaying : GoodIn wsL_law wsX2_isPlaying := goodIn_r _ [148, 21, 233, 234, 235, 236, 237, 238, 239, 240, 241, 242, 243] (by decide +kernel) (by decide +kernel)
set_option maxRecDepth 20000 in
theorem gL_law_X2_isPlaying : GoodIn wsL_law (wsV RL 67 RX2 yX2_isPlaying wsX2_isPlaying) := goodIn_app (goodIn_of _ (by decide +kernel)) ggL_law_X2_isPlaying
set_option maxRecDepth 20000 in
theorem ggL_law_X2_tricks : GoodIn wsL_law wsX2_tricks := goodIn_ca (goodIn_r _ [134, 115, 116, 135, 117, 118, 2, 119, 120, 121, 122, 123, 16, 17, 244, 245, 246, 247, 248, 233, 234, 235, 236, 237, 238, 239, 240, 241, 242, 243] (by decide +kernel) (by decide +kernel)) (goodIn_sub (fun _ h => List.mem_append_left _ (List.mem_append_right _ h)) (by decide +kernel))
set_option maxRecDepth 20000 in
theorem gL_law_X2_tricks : GoodIn wsL_law (wsV RL 29 RX2 yX2_tricks wsX2_tricks) := goodIn_app (goodIn_of _ (by decide +kernel)) ggL_law_X2_tricks
set_option maxRecDepth 20000 in
theorem ggL_law_X2_cards : GoodIn wsL_law wsX2_cards := goodIn_ca (goodIn_r _ [114, 115, 116, 96, 117, 118, 2, 119, 120, 121, 122, 123, 16, 17, 124, 125, 126, 127, 128, 129, 130, 244, 245, 246, 247, 248, 233, 234, 235, 236, 237, 238, 239, 240, 241, 242, 243] (by decide +kernel) (by decide +kernel)) (goodIn_sub (fun _ h => List.mem_append_left _ (List.mem_append_right _ h)) (by decide +kernel))
set_option maxRecDepth 20000 in
theorem gL_law_X2_cards : GoodIn wsL_law (wsV RL 23 RX2 yX2_cards wsX2_cards) := goodIn_app (goodIn_of _ (by decide +kernel)) ggL_law_X2_cards
set_option maxRecDepth 20000 in
theorem ggL_law_X2_gloves : GoodIn wsL_law wsX2_gloves := goodIn_ca (goodIn_r _ [152, 115, 116, 153, 117, 118, 2, 119, 120, 121, 122, 123, 16, 17, 244, 245, 246, 247, 248, 233, 234, 235, 236, 237, 238, 239, 240, 241, 242, 243] (by decide +kernel) (by decide +kernel)) (goodIn_sub (fun _ h => List.mem_append_left _ (List.mem_append_right _ h)) (by decide +kernel))
set_option maxRecDepth 20000 in
theorem gL_law_X2_gloves : GoodIn wsL_law (wsV RL 71 RX2 yX2_gloves wsX2_gloves) := goodIn_app (goodIn_of _ (by decide +kernel)) ggL_law_X2_gloves
set_option maxRecDepth 20000 in
theorem ggL_law_X2_putOnGloves : GoodIn wsL_law wsX2_putOnGloves := goodIn_ca (goodIn_r _ [157, 158, 159, 21, 153, 120, 121, 122, 2, 123, 16, 17, 233, 234, 235, 236, 237, 238, 239, 240, 241, 242, 243, 244, 245, 246, 247, 248] (by decide +kernel) (by decide +kernel)) (goodIn_sub (fun _ h => List.mem_append_right _ h) (by decide +kernel))
set_option maxRecDepth 20000 in
theorem gL_law_X2_putOnGloves : GoodIn wsL_law (wsV RL 74 RX2 yX2_putOnGloves wsX2_putOnGloves) := goodIn_app (goodIn_of _ (by decide +kernel)) ggL_law_X2_putOnGloves
set_option maxRecDepth 20000 in
theorem ggL_law_X2_choices : GoodIn wsL_law wsX2_choices := goodIn_r _ [163, 164, 165, 166, 2, 167, 21, 20, 18, 19, 168, 169, 170, 171, 96, 120, 121, 122, 123, 16, 17, 101, 102, 103, 172, 173, 174, 175, 72, 73, 74, 176, 177, 178, 179, 180, 181, 182, 233, 234, 235, 236, 237, 238, 239, 240, 241, 242, 243, 244, 245, 246, 247, 248] (by decide +kernel) (by decide +kernel)
set_option maxRecDepth 20000 in
theorem gL_law_X2_choices : GoodIn wsL_law (wsV RL 45 RX2 yX2_choices wsX2_choices) := goodIn_app (goodIn_of _ (by decide +kernel)) ggL_law_X2_choices
set_option maxRecDepth 20000 in
theorem ggL_law_X2_cardAt : GoodIn wsL_law wsX2_cardAt := goodIn_ca (goodIn_r _ [144, 115, 116, 96, 117, 118, 2, 119, 120, 121, 122, 123, 16, 17, 101, 102, 103, 244, 245, 246, 247, 248, 233, 234, 235, 236, 237, 238, 239, 240, 241, 242, 243] (by decide +kernel) (by decide +kernel)) (goodIn_sub (fun _ h => List.mem_append_left _ (List.mem_append_right _ h)) (by decide +kernel))
set_option maxRecDepth 20000 in
theorem gL_law_X2_cardAt : GoodIn wsL_law (wsV RL 35 RX2 yX2_cardAt wsX2_cardAt) := goodIn_app (goodIn_of _ (by decide +kernel)) ggL_law_X2_cardAt
set_option maxRecDepth 20000 in
theorem ggL_law_X2_whyNot : GoodIn wsL_law wsX2_whyNot := goodIn_ca (goodIn_r _ [186, 94, 95, 98, 99, 2, 100, 164, 165, 166, 167, 21, 20, 18, 19, 168, 169, 170, 171, 96, 120, 121, 122, 123, 16, 17, 101, 102, 103, 172, 173, 174, 175, 72, 73, 74, 176, 177, 178, 179, 180, 181, 182, 233, 234, 235, 236, 237, 238, 239, 240, 241, 242, 243, 244, 245, 246, 247, 248] (by decide +kernel) (by decide +kernel)) (goodIn_sub (fun _ h => List.mem_append_left _ (List.mem_append_left _ (List.mem_append_right _ h))) (by decide +kernel))
set_option maxRecDepth 20000 in
theorem gL_law_X2_whyNot : GoodIn wsL_law (wsV RL 42 RX2 yX2_whyNot wsX2_whyNot) := goodIn_app (goodIn_of _ (by decide +kernel)) ggL_law_X2_whyNot
set_option maxRecDepth 20000 in
theorem ggL_law_L_isFree : GoodIn wsL_law wsL_isFree := goodIn_ca (goodIn_ca (goodIn_r _ [189, 83, 84, 85, 2, 86, 21, 111, 112, 113, 114, 115, 116, 96, 117, 118, 119, 120, 121, 122, 123, 16, 17, 124, 125, 126, 127, 128, 129, 130, 141, 142, 143, 144, 101, 102, 103, 183, 184, 185, 186, 94, 95, 98, 99, 100, 164, 165, 166, 167, 20, 18, 19, 168, 169, 170, 171, 172, 173, 174, 175, 72, 73, 74, 176, 177, 178, 179, 180, 181, 182, 79, 80, 81, 82, 107, 108, 109, 110, 160, 161, 162, 163, 233, 234, 235, 236, 237, 238, 239, 240, 241, 242, 243, 244, 245, 246, 247, 248] (by decide +kernel) (by decide +kernel)) (goodIn_sub (fun _ h => List.mem_append_left _ (List.mem_append_right _ h)) (by decide +kernel))) (goodIn_sub (fun _ h => List.mem_append_left _ (List.mem_append_left _ (List.mem_append_right _ h))) (by decide +kernel))
set_option maxRecDepth 20000 in
theorem gL_law_L_isFree : GoodIn wsL_law (va_wsS RL 77 yL_isFree wsL_isFree) := goodIn_app (goodIn_of _ (by decide +kernel)) ggL_law_L_isFree
set_option maxRecDepth 20000 in
theorem ggL_law_X2_led : GoodIn wsL_law wsX2_led := goodIn_r _ [110, 20, 233, 234, 235, 236, 237, 238, 239, 240, 241, 242, 243] (by decide +kernel) (by decide +kernel)
set_option maxRecDepth 20000 in
theorem gL_law_X2_led : GoodIn wsL_law (wsV RL 19 RX2 yX2_led wsX2_led) := goodIn_app (goodIn_of _ (by decide +kernel)) ggL_law_X2_led
set_option maxRecDepth 20000 in
theorem ggL_law_X2_wouldTake : GoodIn wsL_law wsX2_wouldTake := goodIn_ca (goodIn_ca (goodIn_r _ [193, 94, 95, 158, 159, 20, 98, 99, 2, 100, 194, 195, 196, 197, 19, 21, 198, 199, 200, 72, 73, 74, 233, 234, 235, 236, 237, 238, 239, 240, 241, 242, 243] (by decide +kernel) (by decide +kernel)) (goodIn_sub (fun _ h => List.mem_append_left _ (List.mem_append_left _ (List.mem_append_right _ h))) (by decide +kernel))) (goodIn_sub (fun _ h => List.mem_append_right _ h) (by decide +kernel))
set_option maxRecDepth 20000 in
theorem gL_law_X2_wouldTake : GoodIn wsL_law (wsV RL 81 RX2 yX2_wouldTake wsX2_wouldTake) := goodIn_app (goodIn_of _ (by decide +kernel)) ggL_law_X2_wouldTake
set_option maxRecDepth 20000 in
theorem ggL_law_X2_points : GoodIn wsL_law wsX2_points := goodIn_ca (goodIn_r _ [139, 115, 116, 140, 117, 118, 2, 119, 120, 121, 122, 123, 16, 17, 244, 245, 246, 247, 248, 233, 234, 235, 236, 237, 238, 239, 240, 241, 242, 243] (by decide +kernel) (by decide +kernel)) (goodIn_sub (fun _ h => List.mem_append_left _ (List.mem_append_right _ h)) (by decide +kernel))
set_option maxRecDepth 20000 in
theorem gL_law_X2_points : GoodIn wsL_law (wsV RL 32 RX2 yX2_points wsX2_points) := goodIn_app (goodIn_of _ (by decide +kernel)) ggL_law_X2_points
set_option maxRecDepth 20000 in
theorem ggL_law_X2_play : GoodIn wsL_law wsX2_play := goodIn_ca (goodIn_ca (goodIn_r _ [204, 94, 95, 158, 159, 21, 96, 205, 20, 98, 99, 2, 100, 164, 165, 166, 167, 18, 19, 168, 169, 170, 171, 120, 121, 122, 123, 16, 17, 101, 102, 103, 172, 173, 174, 175, 72, 73, 74, 176, 177, 178, 179, 180, 181, 182, 65, 66, 67, 206, 207, 208, 209, 153, 140, 135, 97, 194, 195, 196, 197, 198, 199, 200, 210, 211, 212, 213, 214, 215, 15, 216, 33, 217, 218, 219, 220, 12, 221, 222, 223, 224, 22, 23, 233, 234, 235, 236, 237, 238, 239, 240, 241, 242, 243, 244, 245, 246, 247, 248] (by decide +kernel) (by decide +kernel)) (goodIn_sub (fun _ h => List.mem_append_left _ (List.mem_append_left _ (List.mem_append_right _ h))) (by decide +kernel))) (goodIn_sub (fun _ h => List.mem_append_right _ h) (by decide +kernel))
set_option maxRecDepth 20000 in
theorem gL_law_X2_play : GoodIn wsL_law (wsV RL 84 RX2 yX2_play wsX2_play) := goodIn_app (goodIn_of _ (by decide +kernel)) ggL_law_X2_play
set_option maxRecDepth 20000 in
theorem ggL_law_L_worth : GoodIn wsL_law wsL_worth := goodIn_r _ [106] (by decide +kernel) (by decide +kernel)
set_option maxRecDepth 20000 in
theorem gL_law_L_worth : GoodIn wsL_law (va_wsS RL 14 yL_worth wsL_worth) := goodIn_app (goodIn_of _ (by decide +kernel)) ggL_law_L_worth
set_option maxRecDepth 20000 in
theorem ggL_law_X2_placeOf : GoodIn wsL_law wsX2_placeOf := goodIn_ca (goodIn_r _ [93, 94, 95, 19, 16, 96, 17, 97, 20, 98, 99, 2, 100, 101, 102, 103, 233, 234, 235, 236, 237, 238, 239, 240, 241, 242, 243, 244, 245, 246, 247, 248] (by decide +kernel) (by decide +kernel)) (goodIn_sub (fun _ h => List.mem_append_left _ (List.mem_append_left _ (List.mem_append_right _ h))) (by decide +kernel))
set_option maxRecDepth 20000 in
theorem gL_law_X2_placeOf : GoodIn wsL_law (wsV RL 8 RX2 yX2_placeOf wsX2_placeOf) := goodIn_app (goodIn_of _ (by decide +kernel)) ggL_law_X2_placeOf
set_option maxRecDepth 20000 in
theorem ggL_law_X2_wonByFirst : GoodIn wsL_law wsX2_wonByFirst := goodIn_r _ [228, 22, 233, 234, 235, 236, 237, 238, 239, 240, 241, 242, 243] (by decide +kernel) (by decide +kernel)
set_option maxRecDepth 20000 in
theorem gL_law_X2_wonByFirst : GoodIn wsL_law (wsV RL 87 RX2 yX2_wonByFirst wsX2_wonByFirst) := goodIn_app (goodIn_of _ (by decide +kernel)) ggL_law_X2_wonByFirst
set_option maxRecDepth 20000 in
theorem ggL_law_X2_wonBySecond : GoodIn wsL_law wsX2_wonBySecond := goodIn_r _ [232, 23, 233, 234, 235, 236, 237, 238, 239, 240, 241, 242, 243] (by decide +kernel) (by decide +kernel)
set_option maxRecDepth 20000 in
theorem gL_law_X2_wonBySecond : GoodIn wsL_law (wsV RL 90 RX2 yX2_wonBySecond wsX2_wonBySecond) := goodIn_app (goodIn_of _ (by decide +kernel)) ggL_law_X2_wonBySecond
