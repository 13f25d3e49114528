set_option maxRecDepth 20000 in
theorem ggL_law_X6_correct : GoodIn wsL_law wsX6_correct := goodIn_r _ [302, 207, 275, 53, 276, 277, 5, 278, 279, 280, 281, 282, 283, 284, 285, 286, 51, 586, 587, 588, 589, 590, 591, 592, 593, 594, 595, 596, 597, 598, 599, 600, 601, 602, 603, 604] (by decide +kernel) (by decide +kernel)
set_option maxRecDepth 20000 in
theorem gL_law_X6_correct : GoodIn wsL_law (wsV RL 112 RX6 yX6_correct wsX6_correct) := goodIn_app (goodIn_of _ (by decide +kernel)) ggL_law_X6_correct
set_option maxRecDepth 20000 in
theorem ggL_law_L_strike : GoodIn wsL_law wsL_strike := goodIn_ca (goodIn_r _ [305, 249, 306, 307, 308, 2, 309, 254, 255, 15, 256, 239, 240, 241, 75, 76, 77, 78, 25, 17, 21, 79, 80, 81, 24, 82, 83, 84, 85, 86, 87, 88, 89, 37, 90, 91, 92, 36, 93, 94, 95, 96, 97, 98, 99, 100, 101, 102, 103, 104, 105, 106, 107, 108, 109, 110, 111, 112, 113, 114, 115, 116, 117, 118, 20, 119, 120, 121, 122, 123, 124, 125, 126, 127, 128, 129, 130, 29, 131, 132, 133, 134, 135, 136, 137, 138, 139, 30, 140, 141, 142, 143, 144, 145, 146, 147, 148, 149, 150, 151, 152, 153, 154, 155, 156, 157, 158, 159, 160, 161, 162, 163, 164, 165, 166, 41, 167, 43, 168, 169, 170, 171, 172, 173, 174, 175, 176, 177, 178, 179, 180, 181, 182, 183, 184, 185, 186, 187, 188, 189, 190, 191, 192, 193, 194, 195, 196, 197, 198, 199, 200, 201, 202, 581, 582, 583, 584, 585, 608, 609, 610, 611, 612, 613, 614, 615, 616, 617, 618, 619, 620, 621, 622, 623, 624, 625, 605, 606, 607] (by decide +kernel) (by decide +kernel)) (goodIn_sub (fun _ h => List.mem_append_left _ (List.mem_append_right _ h)) (by decide +kernel))
set_option maxRecDepth 20000 in
theorem gL_law_L_strike : GoodIn wsL_law (va_wsS RL 113 yL_strike wsL_strike) := goodIn_app (goodIn_of _ (by decide +kernel)) ggL_law_L_strike
set_option maxRecDepth 20000 in
theorem ggL_law_X6_strike : GoodIn wsL_law wsX6_strike := goodIn_r _ [313, 275, 207, 51, 52, 53, 283, 284, 285, 5, 286, 586, 587, 588, 589, 590, 591, 592, 593, 594, 595, 596, 597, 598, 599, 600, 601, 602, 603, 604] (by decide +kernel) (by decide +kernel)
set_option maxRecDepth 20000 in
theorem gL_law_X6_strike : GoodIn wsL_law (wsV RL 115 RX6 yX6_strike wsX6_strike) := goodIn_app (goodIn_of _ (by decide +kernel)) ggL_law_X6_strike
set_option maxRecDepth 20000 in
theorem ggL_law_X5_lots : GoodIn wsL_law wsX5_lots := goodIn_r _ [317, 256, 581, 582, 583, 584, 585] (by decide +kernel) (by decide +kernel)
set_option maxRecDepth 20000 in
theorem gL_law_X5_lots : GoodIn wsL_law (wsV RL 116 RX5 yX5_lots wsX5_lots) := goodIn_app (goodIn_of _ (by decide +kernel)) ggL_law_X5_lots
set_option maxRecDepth 20000 in
theorem ggL_law_X6_lots : GoodIn wsL_law wsX6_lots := goodIn_r _ [321, 207, 275, 586, 587, 588, 589, 590, 591, 592, 593, 594, 595, 596, 597, 598, 599, 600, 601, 602, 603, 604] (by decide +kernel) (by decide +kernel)
set_option maxRecDepth 20000 in
theorem gL_law_X6_lots : GoodIn wsL_law (wsV RL 119 RX6 yX6_lots wsX6_lots) := goodIn_app (goodIn_of _ (by decide +kernel)) ggL_law_X6_lots
set_option maxRecDepth 20000 in
theorem ggL_law_L_orderAt : GoodIn wsL_law wsL_orderAt := goodIn_ca (goodIn_r _ [324, 325, 326, 327, 328, 2, 329, 330, 331, 15, 581, 582, 583, 584, 585] (by decide +kernel) (by decide +kernel)) (goodIn_sub (fun _ h => List.mem_append_right _ h) (by decide +kernel))
set_option maxRecDepth 20000 in
theorem gL_law_L_orderAt : GoodIn wsL_law (va_wsS RL 120 yL_orderAt wsL_orderAt) := goodIn_app (goodIn_of _ (by decide +kernel)) ggL_law_L_orderAt
set_option maxRecDepth 20000 in
theorem ggL_law_X6_orderAt : GoodIn wsL_law wsX6_orderAt := goodIn_r _ [335, 275, 207, 51, 208, 209, 5, 210, 586, 587, 588, 589, 590, 591, 592, 593, 594, 595, 596, 597, 598, 599, 600, 601, 602, 603, 604] (by decide +kernel) (by decide +kernel)
set_option maxRecDepth 20000 in
theorem gL_law_X6_orderAt : GoodIn wsL_law (wsV RL 122 RX6 yX6_orderAt wsX6_orderAt) := goodIn_app (goodIn_of _ (by decide +kernel)) ggL_law_X6_orderAt
set_option maxRecDepth 20000 in
theorem ggL_law_L_verdict : GoodIn wsL_law wsL_verdict := goodIn_ca (goodIn_r _ [338, 249, 339, 340, 341, 2, 342, 254, 255, 343, 295, 296, 297, 298, 15, 239, 240, 241, 619, 620, 621, 622, 623, 624, 625, 581, 582, 583, 584, 585] (by decide +kernel) (by decide +kernel)) (goodIn_sub (fun _ h => List.mem_append_left _ (List.mem_append_right _ h)) (by decide +kernel))
set_option maxRecDepth 20000 in
theorem gL_law_L_verdict : GoodIn wsL_law (va_wsS RL 123 yL_verdict wsL_verdict) := goodIn_app (goodIn_of _ (by decide +kernel)) ggL_law_L_verdict
set_option maxRecDepth 20000 in
theorem ggL_law_X6_verdict : GoodIn wsL_law wsX6_verdict := goodIn_r _ [347, 54, 348, 349, 350, 5, 351, 275, 207, 283, 284, 285, 286, 51, 352, 353, 354, 355, 356, 357, 358, 231, 55, 56, 57, 58, 359, 360, 361, 362, 50, 363, 364, 365, 366, 52, 229, 367, 368, 369, 370, 371, 372, 373, 374, 48, 375, 376, 377, 378, 379, 380, 381, 49, 382, 383, 384, 385, 53, 386, 387, 388, 389, 230, 390, 391, 392, 393, 394, 395, 396, 397, 586, 587, 588, 589, 590, 591, 592, 593, 594, 595, 596, 597, 598, 599, 600, 601, 602, 603, 604] (by decide +kernel) (by decide +kernel)
set_option maxRecDepth 20000 in
theorem gL_law_X6_verdict : GoodIn wsL_law (wsV RL 125 RX6 yX6_verdict wsX6_verdict) := goodIn_app (goodIn_of _ (by decide +kernel)) ggL_law_X6_verdict
set_option maxRecDepth 20000 in
theorem ggL_law_L_stateAt : GoodIn wsL_law wsL_stateAt := goodIn_ca (goodIn_r _ [400, 249, 401, 402, 403, 2, 404, 254, 255, 405, 295, 296, 297, 298, 15, 239, 240, 241, 619, 620, 621, 622, 623, 624, 625, 581, 582, 583, 584, 585] (by decide +kernel) (by decide +kernel)) (goodIn_sub (fun _ h => List.mem_append_left _ (List.mem_append_right _ h)) (by decide +kernel))
set_option maxRecDepth 20000 in
theorem gL_law_L_stateAt : GoodIn wsL_law (va_wsS RL 126 yL_stateAt wsL_stateAt) := goodIn_app (goodIn_of _ (by decide +kernel)) ggL_law_L_stateAt
set_option maxRecDepth 20000 in
theorem ggL_law_X6_stateAt : GoodIn wsL_law wsX6_stateAt := goodIn_r _ [409, 55, 348, 349, 350, 5, 351, 275, 207, 283, 284, 285, 286, 51, 352, 353, 354, 355, 356, 357, 358, 231, 54, 56, 57, 58, 359, 360, 361, 362, 50, 363, 364, 365, 366, 52, 229, 367, 368, 369, 370, 371, 372, 373, 374, 48, 375, 376, 377, 378, 379, 380, 381, 49, 382, 383, 384, 385, 53, 386, 387, 388, 389, 230, 390, 391, 392, 393, 394, 395, 396, 397, 586, 587, 588, 589, 590, 591, 592, 593, 594, 595, 596, 597, 598, 599, 600, 601, 602, 603, 604] (by decide +kernel) (by decide +kernel)
set_option maxRecDepth 20000 in
theorem gL_law_X6_stateAt : GoodIn wsL_law (wsV RL 128 RX6 yX6_stateAt wsX6_stateAt) := goodIn_app (goodIn_of _ (by decide +kernel)) ggL_law_X6_stateAt
set_option maxRecDepth 20000 in
theorem ggL_law_X5_state : GoodIn wsL_law wsX5_state := goodIn_r _ [413, 25, 414, 581, 582, 583, 584, 585, 608, 609, 610, 611, 612, 613, 614, 615] (by decide +kernel) (by decide +kernel)
set_option maxRecDepth 20000 in
theorem gL_law_X5_state : GoodIn wsL_law (wsV RL 129 RX5 yX5_state wsX5_state) := goodIn_app (goodIn_of _ (by decide +kernel)) ggL_law_X5_state
