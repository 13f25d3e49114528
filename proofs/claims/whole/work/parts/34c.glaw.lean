set_option maxRecDepth 20000 in
theorem ggL_law_X6_state : GoodIn wsL_law wsX6_state := goodIn_r _ [418, 207, 356, 352, 353, 354, 5, 355, 357, 358, 275, 51, 231, 54, 55, 56, 57, 58, 359, 360, 361, 362, 50, 363, 364, 365, 366, 52, 229, 367, 368, 369, 370, 371, 372, 373, 374, 48, 375, 376, 377, 378, 379, 380, 381, 49, 382, 383, 384, 385, 53, 386, 387, 388, 389, 230, 390, 391, 392, 393, 394, 395, 396, 397, 586, 587, 588, 589, 590, 591, 592, 593, 594, 595, 596, 597, 598, 599, 600, 601, 602, 603, 604] (by decide +kernel) (by decide +kernel)
set_option maxRecDepth 20000 in
theorem gL_law_X6_state : GoodIn wsL_law (wsV RL 132 RX6 yX6_state wsX6_state) := goodIn_app (goodIn_of _ (by decide +kernel)) ggL_law_X6_state
set_option maxRecDepth 20000 in
theorem ggL_law_X5_isSkipping : GoodIn wsL_law wsX5_isSkipping := goodIn_r _ [422, 25, 423, 581, 582, 583, 584, 585, 608, 609, 610, 611, 612, 613, 614, 615] (by decide +kernel) (by decide +kernel)
set_option maxRecDepth 20000 in
theorem gL_law_X5_isSkipping : GoodIn wsL_law (wsV RL 133 RX5 yX5_isSkipping wsX5_isSkipping) := goodIn_app (goodIn_of _ (by decide +kernel)) ggL_law_X5_isSkipping
set_option maxRecDepth 20000 in
theorem ggL_law_X6_isSkipping : GoodIn wsL_law wsX6_isSkipping := goodIn_r _ [427, 207, 357, 352, 353, 354, 5, 355, 356, 358, 275, 51, 231, 54, 55, 56, 57, 58, 359, 360, 361, 362, 50, 363, 364, 365, 366, 52, 229, 367, 368, 369, 370, 371, 372, 373, 374, 48, 375, 376, 377, 378, 379, 380, 381, 49, 382, 383, 384, 385, 53, 386, 387, 388, 389, 230, 390, 391, 392, 393, 394, 395, 396, 397, 586, 587, 588, 589, 590, 591, 592, 593, 594, 595, 596, 597, 598, 599, 600, 601, 602, 603, 604] (by decide +kernel) (by decide +kernel)
set_option maxRecDepth 20000 in
theorem gL_law_X6_isSkipping : GoodIn wsL_law (wsV RL 137 RX6 yX6_isSkipping wsX6_isSkipping) := goodIn_app (goodIn_of _ (by decide +kernel)) ggL_law_X6_isSkipping
set_option maxRecDepth 20000 in
theorem ggL_law_L_inspected : GoodIn wsL_law wsL_inspected := goodIn_ca (goodIn_r _ [430, 249, 431, 432, 433, 2, 434, 254, 255, 435, 295, 296, 297, 298, 15, 239, 240, 241, 619, 620, 621, 622, 623, 624, 625, 581, 582, 583, 584, 585] (by decide +kernel) (by decide +kernel)) (goodIn_sub (fun _ h => List.mem_append_left _ (List.mem_append_right _ h)) (by decide +kernel))
set_option maxRecDepth 20000 in
theorem gL_law_L_inspected : GoodIn wsL_law (va_wsS RL 138 yL_inspected wsL_inspected) := goodIn_app (goodIn_of _ (by decide +kernel)) ggL_law_L_inspected
set_option maxRecDepth 20000 in
theorem ggL_law_X6_inspected : GoodIn wsL_law wsX6_inspected := goodIn_r _ [439, 56, 348, 349, 350, 5, 351, 275, 207, 283, 284, 285, 286, 51, 352, 353, 354, 355, 356, 357, 358, 231, 54, 55, 57, 58, 359, 360, 361, 362, 50, 363, 364, 365, 366, 52, 229, 367, 368, 369, 370, 371, 372, 373, 374, 48, 375, 376, 377, 378, 379, 380, 381, 49, 382, 383, 384, 385, 53, 386, 387, 388, 389, 230, 390, 391, 392, 393, 394, 395, 396, 397, 586, 587, 588, 589, 590, 591, 592, 593, 594, 595, 596, 597, 598, 599, 600, 601, 602, 603, 604] (by decide +kernel) (by decide +kernel)
set_option maxRecDepth 20000 in
theorem gL_law_X6_inspected : GoodIn wsL_law (wsV RL 140 RX6 yX6_inspected wsX6_inspected) := goodIn_app (goodIn_of _ (by decide +kernel)) ggL_law_X6_inspected
set_option maxRecDepth 20000 in
theorem ggL_law_L_badIn : GoodIn wsL_law wsL_badIn := goodIn_ca (goodIn_r _ [442, 249, 443, 444, 445, 2, 446, 254, 255, 447, 295, 296, 297, 298, 15, 239, 240, 241, 619, 620, 621, 622, 623, 624, 625, 581, 582, 583, 584, 585] (by decide +kernel) (by decide +kernel)) (goodIn_sub (fun _ h => List.mem_append_left _ (List.mem_append_right _ h)) (by decide +kernel))
set_option maxRecDepth 20000 in
theorem gL_law_L_badIn : GoodIn wsL_law (va_wsS RL 141 yL_badIn wsL_badIn) := goodIn_app (goodIn_of _ (by decide +kernel)) ggL_law_L_badIn
set_option maxRecDepth 20000 in
theorem ggL_law_X6_badIn : GoodIn wsL_law wsX6_badIn := goodIn_r _ [451, 57, 348, 349, 350, 5, 351, 275, 207, 283, 284, 285, 286, 51, 352, 353, 354, 355, 356, 357, 358, 231, 54, 55, 56, 58, 359, 360, 361, 362, 50, 363, 364, 365, 366, 52, 229, 367, 368, 369, 370, 371, 372, 373, 374, 48, 375, 376, 377, 378, 379, 380, 381, 49, 382, 383, 384, 385, 53, 386, 387, 388, 389, 230, 390, 391, 392, 393, 394, 395, 396, 397, 586, 587, 588, 589, 590, 591, 592, 593, 594, 595, 596, 597, 598, 599, 600, 601, 602, 603, 604] (by decide +kernel) (by decide +kernel)
set_option maxRecDepth 20000 in
theorem gL_law_X6_badIn : GoodIn wsL_law (wsV RL 143 RX6 yX6_badIn wsX6_badIn) := goodIn_app (goodIn_of _ (by decide +kernel)) ggL_law_X6_badIn
set_option maxRecDepth 20000 in
theorem ggL_law_L_count : GoodIn wsL_law wsL_count := goodIn_ca (goodIn_r _ [454, 63, 455, 456, 457, 2, 458, 68, 69, 15, 343, 72, 73, 74, 581, 582, 583, 584, 585, 619, 620, 621, 622, 623, 624, 625] (by decide +kernel) (by decide +kernel)) (goodIn_sub (fun _ h => List.mem_append_left _ (List.mem_append_left _ (List.mem_append_right _ h))) (by decide +kernel))
set_option maxRecDepth 20000 in
theorem gL_law_L_count : GoodIn wsL_law (va_wsS RL 144 yL_count wsL_count) := goodIn_app (goodIn_of _ (by decide +kernel)) ggL_law_L_count
set_option maxRecDepth 20000 in
theorem ggL_law_X6_count : GoodIn wsL_law wsX6_count := goodIn_r _ [462, 207, 275, 54, 208, 209, 5, 210, 352, 353, 354, 355, 356, 357, 358, 51, 231, 55, 56, 57, 58, 359, 360, 361, 362, 50, 363, 364, 365, 366, 52, 229, 367, 368, 369, 370, 371, 372, 373, 374, 48, 375, 376, 377, 378, 379, 380, 381, 49, 382, 383, 384, 385, 53, 386, 387, 388, 389, 230, 390, 391, 392, 393, 394, 395, 396, 397, 586, 587, 588, 589, 590, 591, 592, 593, 594, 595, 596, 597, 598, 599, 600, 601, 602, 603, 604] (by decide +kernel) (by decide +kernel)
set_option maxRecDepth 20000 in
theorem gL_law_X6_count : GoodIn wsL_law (wsV RL 146 RX6 yX6_count wsX6_count) := goodIn_app (goodIn_of _ (by decide +kernel)) ggL_law_X6_count
set_option maxRecDepth 20000 in
theorem ggL_law_L_letter : GoodIn wsL_law wsL_letter := goodIn_ca (goodIn_r _ [465, 63, 466, 467, 468, 2, 469, 68, 69, 21, 258, 259, 260, 72, 73, 74, 470, 128, 129, 20, 130, 29, 131, 132, 133, 134, 135, 581, 582, 583, 584, 585, 605, 606, 607] (by decide +kernel) (by decide +kernel)) (goodIn_sub (fun _ h => List.mem_append_left _ (List.mem_append_left _ (List.mem_append_right _ h))) (by decide +kernel))
set_option maxRecDepth 20000 in
theorem gL_law_L_letter : GoodIn wsL_law (va_wsS RL 147 yL_letter wsL_letter) := goodIn_app (goodIn_of _ (by decide +kernel)) ggL_law_L_letter
set_option maxRecDepth 20000 in
theorem ggL_law_X6_letter : GoodIn wsL_law wsX6_letter := goodIn_r _ [474, 207, 208, 209, 5, 210, 371, 372, 373, 374, 48, 375, 376, 377, 586, 587, 588, 589, 590, 591, 592, 593, 594, 595, 596, 597, 598, 599, 600, 601, 602, 603, 604] (by decide +kernel) (by decide +kernel)
set_option maxRecDepth 20000 in
theorem gL_law_X6_letter : GoodIn wsL_law (wsV RL 149 RX6 yX6_letter wsX6_letter) := goodIn_app (goodIn_of _ (by decide +kernel)) ggL_law_X6_letter
set_option maxRecDepth 20000 in
theorem ggL_law_L_sample : GoodIn wsL_law wsL_sample := goodIn_ca (goodIn_r _ [477, 63, 478, 479, 480, 2, 481, 68, 69, 21, 258, 259, 260, 72, 73, 74, 482, 124, 125, 20, 126, 127, 128, 129, 130, 29, 131, 132, 133, 134, 135, 581, 582, 583, 584, 585, 605, 606, 607] (by decide +kernel) (by decide +kernel)) (goodIn_sub (fun _ h => List.mem_append_left _ (List.mem_append_left _ (List.mem_append_right _ h))) (by decide +kernel))
set_option maxRecDepth 20000 in
theorem gL_law_L_sample : GoodIn wsL_law (va_wsS RL 150 yL_sample wsL_sample) := goodIn_app (goodIn_of _ (by decide +kernel)) ggL_law_L_sample
