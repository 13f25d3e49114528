set_option maxRecDepth 20000 in
theorem ggL_law_X6_sample : GoodIn wsL_law wsX6_sample := goodIn_r _ [486, 207, 208, 209, 5, 210, 367, 368, 369, 370, 371, 372, 373, 374, 48, 375, 376, 377, 586, 587, 588, 589, 590, 591, 592, 593, 594, 595, 596, 597, 598, 599, 600, 601, 602, 603, 604] (by decide +kernel) (by decide +kernel)
set_option maxRecDepth 20000 in
theorem gL_law_X6_sample : GoodIn wsL_law (wsV RL 153 RX6 yX6_sample wsX6_sample) := goodIn_app (goodIn_of _ (by decide +kernel)) ggL_law_X6_sample
set_option maxRecDepth 20000 in
theorem ggL_law_L_accepting : GoodIn wsL_law wsL_accepting := goodIn_ca (goodIn_r _ [489, 63, 490, 491, 492, 2, 493, 68, 69, 21, 258, 259, 260, 72, 73, 74, 494, 137, 138, 20, 139, 30, 127, 128, 129, 130, 29, 131, 132, 133, 134, 135, 581, 582, 583, 584, 585, 605, 606, 607] (by decide +kernel) (by decide +kernel)) (goodIn_sub (fun _ h => List.mem_append_left _ (List.mem_append_left _ (List.mem_append_right _ h))) (by decide +kernel))
set_option maxRecDepth 20000 in
theorem gL_law_L_accepting : GoodIn wsL_law (va_wsS RL 154 yL_accepting wsL_accepting) := goodIn_app (goodIn_of _ (by decide +kernel)) ggL_law_L_accepting
set_option maxRecDepth 20000 in
theorem ggL_law_X6_accepting : GoodIn wsL_law wsX6_accepting := goodIn_r _ [498, 207, 208, 209, 5, 210, 378, 379, 380, 381, 49, 371, 372, 373, 374, 48, 375, 376, 377, 586, 587, 588, 589, 590, 591, 592, 593, 594, 595, 596, 597, 598, 599, 600, 601, 602, 603, 604] (by decide +kernel) (by decide +kernel)
set_option maxRecDepth 20000 in
theorem gL_law_X6_accepting : GoodIn wsL_law (wsV RL 156 RX6 yX6_accepting wsX6_accepting) := goodIn_app (goodIn_of _ (by decide +kernel)) ggL_law_X6_accepting
set_option maxRecDepth 20000 in
theorem ggL_law_L_samples : GoodIn wsL_law wsL_samples := goodIn_ca (goodIn_r _ [501, 63, 502, 503, 504, 2, 505, 68, 69, 72, 73, 74, 506, 507, 508, 509] (by decide +kernel) (by decide +kernel)) (goodIn_sub (fun _ h => List.mem_append_left _ (List.mem_append_left _ (List.mem_append_right _ h))) (by decide +kernel))
set_option maxRecDepth 20000 in
theorem gL_law_L_samples : GoodIn wsL_law (va_wsS RL 157 yL_samples wsL_samples) := goodIn_app (goodIn_of _ (by decide +kernel)) ggL_law_L_samples
set_option maxRecDepth 20000 in
theorem ggL_law_X6_samples : GoodIn wsL_law wsX6_samples := goodIn_r _ [513, 207, 208, 209, 5, 210, 514, 515, 516, 517, 518, 519, 586, 587, 588, 589, 590, 591, 592, 593, 594, 595, 596, 597, 598, 599, 600, 601, 602, 603, 604] (by decide +kernel) (by decide +kernel)
set_option maxRecDepth 20000 in
theorem gL_law_X6_samples : GoodIn wsL_law (wsV RL 159 RX6 yX6_samples wsX6_samples) := goodIn_app (goodIn_of _ (by decide +kernel)) ggL_law_X6_samples
set_option maxRecDepth 20000 in
theorem ggL_law_L_accepted : GoodIn wsL_law wsL_accepted := goodIn_ca (goodIn_r _ [522, 63, 523, 524, 525, 2, 526, 68, 69, 72, 73, 74, 527, 528, 508, 529, 530, 531, 532, 533, 507, 509] (by decide +kernel) (by decide +kernel)) (goodIn_sub (fun _ h => List.mem_append_left _ (List.mem_append_left _ (List.mem_append_right _ h))) (by decide +kernel))
set_option maxRecDepth 20000 in
theorem gL_law_L_accepted : GoodIn wsL_law (va_wsS RL 160 yL_accepted wsL_accepted) := goodIn_app (goodIn_of _ (by decide +kernel)) ggL_law_L_accepted
set_option maxRecDepth 20000 in
theorem ggL_law_X6_accepted : GoodIn wsL_law wsX6_accepted := goodIn_r _ [537, 207, 208, 209, 5, 210, 538, 539, 540, 514, 515, 516, 517, 518, 519, 586, 587, 588, 589, 590, 591, 592, 593, 594, 595, 596, 597, 598, 599, 600, 601, 602, 603, 604] (by decide +kernel) (by decide +kernel)
set_option maxRecDepth 20000 in
theorem gL_law_X6_accepted : GoodIn wsL_law (wsV RL 163 RX6 yX6_accepted wsX6_accepted) := goodIn_app (goodIn_of _ (by decide +kernel)) ggL_law_X6_accepted
set_option maxRecDepth 20000 in
theorem ggL_law_L_acceptedByListing : GoodIn wsL_law wsL_acceptedByListing := goodIn_ca (goodIn_r _ [543, 63, 544, 545, 546, 2, 547, 68, 69, 72, 73, 74, 548, 549, 508, 550, 551, 552, 553, 554, 555, 556, 557, 558, 559, 560, 561] (by decide +kernel) (by decide +kernel)) (goodIn_sub (fun _ h => List.mem_append_left _ (List.mem_append_left _ (List.mem_append_right _ h))) (by decide +kernel))
set_option maxRecDepth 20000 in
theorem gL_law_L_acceptedByListing : GoodIn wsL_law (va_wsS RL 164 yL_acceptedByListing wsL_acceptedByListing) := goodIn_app (goodIn_of _ (by decide +kernel)) ggL_law_L_acceptedByListing
set_option maxRecDepth 20000 in
theorem ggL_law_X6_acceptedByListing : GoodIn wsL_law wsX6_acceptedByListing := goodIn_r _ [565, 207, 208, 209, 5, 210, 586, 587, 588, 589, 590, 591, 592, 593, 594, 595, 596, 597, 598, 599, 600, 601, 602, 603, 604] (by decide +kernel) (by decide +kernel)
set_option maxRecDepth 20000 in
theorem gL_law_X6_acceptedByListing : GoodIn wsL_law (wsV RL 166 RX6 yX6_acceptedByListing wsX6_acceptedByListing) := goodIn_app (goodIn_of _ (by decide +kernel)) ggL_law_X6_acceptedByListing
set_option maxRecDepth 20000 in
theorem ggL_law_L_acceptedTwice : GoodIn wsL_law wsL_acceptedTwice := goodIn_ca (goodIn_r _ [568, 63, 569, 570, 571, 2, 572, 68, 69, 72, 73, 74, 573, 574, 508, 575, 533, 507, 509, 576, 528, 529, 530, 531, 532] (by decide +kernel) (by decide +kernel)) (goodIn_sub (fun _ h => List.mem_append_left _ (List.mem_append_left _ (List.mem_append_right _ h))) (by decide +kernel))
set_option maxRecDepth 20000 in
theorem gL_law_L_acceptedTwice : GoodIn wsL_law (va_wsS RL 167 yL_acceptedTwice wsL_acceptedTwice) := goodIn_app (goodIn_of _ (by decide +kernel)) ggL_law_L_acceptedTwice
set_option maxRecDepth 20000 in
theorem ggL_law_X6_acceptedTwice : GoodIn wsL_law wsX6_acceptedTwice := goodIn_r _ [580, 207, 208, 209, 5, 210, 514, 515, 516, 517, 518, 519, 538, 539, 540, 586, 587, 588, 589, 590, 591, 592, 593, 594, 595, 596, 597, 598, 599, 600, 601, 602, 603, 604] (by decide +kernel) (by decide +kernel)
set_option maxRecDepth 20000 in
theorem gL_law_X6_acceptedTwice : GoodIn wsL_law (wsV RL 169 RX6 yX6_acceptedTwice wsX6_acceptedTwice) := goodIn_app (goodIn_of _ (by decide +kernel)) ggL_law_X6_acceptedTwice
