set_option maxRecDepth 20000 in
theorem ggL_record_X5_record : GoodIn wsL_record wsX5_record := goodIn_ca (goodIn_ca (goodIn_r _ [6, 7, 8, 9, 10, 11, 12, 13, 14, 15, 16, 17, 5, 18, 19, 20, 21, 22, 23, 24, 25, 26, 27, 28, 29, 30, 31, 32, 33, 34, 35, 36, 37, 38, 39, 40, 41, 42, 43, 44, 45, 46, 47, 48, 49, 50, 51, 52, 53, 54, 55, 56, 57, 58, 59, 60, 61, 62, 63, 64, 65, 66, 67, 68, 69, 70, 71, 72, 73, 74, 75, 76, 77, 78, 79, 80, 81, 82, 83, 84, 85, 86, 87, 88, 89, 90, 91, 92, 93, 94, 95, 96, 97, 98, 99, 100, 101, 102, 103, 104, 105, 106, 107, 108, 109, 110, 111, 112, 113, 114, 115, 116, 117, 118, 119, 120, 121, 122, 123, 124, 125, 126, 127, 128, 129, 130, 131, 132, 133, 134, 135, 136, 137, 138, 139, 140, 141, 142, 143, 144, 145, 146, 147, 148, 149, 150, 151, 152, 153, 154, 155, 156, 157, 158, 159, 160, 161, 162, 163, 164, 165, 166, 167, 168, 169, 170, 171, 172, 173, 174, 175, 176, 177, 178, 179, 180, 181, 182, 183, 184, 185, 186, 187, 188, 189, 190, 191, 192, 193, 194, 195, 196, 197, 198, 199, 200] (by decide +kernel) (by decide +kernel)) (goodIn_sub (fun _ h => List.mem_cons_of_mem _ (List.mem_append_left _ (List.mem_append_right _ h))) (by decide +kernel))) (goodIn_sub (fun _ h => List.mem_cons_of_mem _ (List.mem_append_right _ h)) (by decide +kernel))
set_option maxRecDepth 20000 in
theorem gL_record_X5_record : GoodIn wsL_record (wsV RL 9 RX5 yX5_record wsX5_record) := goodIn_app (goodIn_of _ (by decide +kernel)) ggL_record_X5_record
set_option maxRecDepth 20000 in
theorem ggL_strike_X5_strike : GoodIn wsL_strike wsX5_strike := goodIn_ca (goodIn_r _ [6, 7, 8, 9, 10, 11, 12, 5, 13, 14, 15, 16, 17, 18, 19, 20, 21, 22, 23, 24, 25, 26, 27, 28, 29, 30, 31, 32, 33, 34, 35, 36, 37, 38, 39, 40, 41, 42, 43, 44, 45, 46, 47, 48, 49, 50, 51, 52, 53, 54, 55, 56, 57, 58, 59, 60, 61, 62, 63, 64, 65, 66, 67, 68, 69, 70, 71, 72, 73, 74, 75, 76, 77, 78, 79, 80, 81, 82, 83, 84, 85, 86, 87, 88, 89, 90, 91, 92, 93, 94, 95, 96, 97, 98, 99, 100, 101, 102, 103, 104, 105, 106, 107, 108, 109, 110, 111, 112, 113, 114, 115, 116, 117, 118, 119, 120, 121, 122, 123, 124, 125, 126, 127, 128, 129, 130, 131, 132, 133, 134, 135, 136, 137, 138, 139, 140, 141, 142, 143, 144, 145, 146, 147, 148, 149, 150, 151, 152, 153, 154, 155, 156, 157, 158, 159, 160, 161, 162, 163, 164, 165, 166, 167, 168, 169, 170, 171, 172, 173, 174, 175, 176, 177, 178] (by decide +kernel) (by decide +kernel)) (goodIn_sub (fun _ h => List.mem_cons_of_mem _ (List.mem_append_right _ h)) (by decide +kernel))
set_option maxRecDepth 20000 in
theorem gL_strike_X5_strike : GoodIn wsL_strike (wsV RL 17 RX5 yX5_strike wsX5_strike) := goodIn_app (goodIn_of _ (by decide +kernel)) ggL_strike_X5_strike
set_option maxRecDepth 20000 in
theorem ggL_findings_L_low : GoodIn wsL_findings wsL_low := goodIn_r _ [4, 5] (by decide +kernel) (by decide +kernel)
set_option maxRecDepth 20000 in
theorem gL_findings_L_low : GoodIn wsL_findings (va_wsS RL 21 yL_low wsL_low) := goodIn_app (goodIn_of _ (by decide +kernel)) ggL_findings_L_low
set_option maxRecDepth 20000 in
theorem ggL_holds_X5_count : GoodIn wsL_holds wsX5_count := goodIn_ca (goodIn_r _ [5, 6, 7, 8, 9, 10, 11, 4, 12, 63, 64, 65, 66, 67, 68, 69, 70, 71, 72, 73, 74] (by decide +kernel) (by decide +kernel)) (goodIn_sub (fun _ h => List.mem_cons_of_mem _ (List.mem_append_left _ (List.mem_append_left _ (List.mem_append_right _ h)))) (by decide +kernel))
set_option maxRecDepth 20000 in
theorem gL_holds_X5_count : GoodIn wsL_holds (wsV RL 27 RX5 yX5_count wsX5_count) := goodIn_app (goodIn_of _ (by decide +kernel)) ggL_holds_X5_count
set_option maxRecDepth 20000 in
theorem ggL_holds_X5_lots : GoodIn wsL_holds wsX5_lots := goodIn_r _ [16, 17, 63, 64, 65, 66, 67] (by decide +kernel) (by decide +kernel)
set_option maxRecDepth 20000 in
theorem gL_holds_X5_lots : GoodIn wsL_holds (wsV RL 30 RX5 yX5_lots wsX5_lots) := goodIn_app (goodIn_of _ (by decide +kernel)) ggL_holds_X5_lots
set_option maxRecDepth 20000 in
theorem ggL_holds_X5_orderAt : GoodIn wsL_holds wsX5_orderAt := goodIn_ca (goodIn_r _ [21, 22, 23, 8, 63, 64, 65, 66, 67] (by decide +kernel) (by decide +kernel)) (goodIn_sub (fun _ h => List.mem_cons_of_mem _ (List.mem_append_left _ (List.mem_append_right _ h))) (by decide +kernel))
set_option maxRecDepth 20000 in
theorem gL_holds_X5_orderAt : GoodIn wsL_holds (wsV RL 34 RX5 yX5_orderAt wsX5_orderAt) := goodIn_app (goodIn_of _ (by decide +kernel)) ggL_holds_X5_orderAt
set_option maxRecDepth 20000 in
theorem ggL_holds_X5_verdict : GoodIn wsL_holds wsX5_verdict := goodIn_ca (goodIn_r _ [27, 28, 29, 9, 30, 31, 32, 4, 33, 8, 34, 35, 36, 68, 69, 70, 71, 72, 73, 74, 63, 64, 65, 66, 67] (by decide +kernel) (by decide +kernel)) (goodIn_sub (fun _ h => List.mem_cons_of_mem _ (List.mem_append_right _ h)) (by decide +kernel))
set_option maxRecDepth 20000 in
theorem gL_holds_X5_verdict : GoodIn wsL_holds (wsV RL 37 RX5 yX5_verdict wsX5_verdict) := goodIn_app (goodIn_of _ (by decide +kernel)) ggL_holds_X5_verdict
set_option maxRecDepth 20000 in
theorem ggL_holds_X5_stateAt : GoodIn wsL_holds wsX5_stateAt := goodIn_ca (goodIn_r _ [40, 28, 29, 41, 30, 31, 32, 4, 33, 8, 34, 35, 36, 68, 69, 70, 71, 72, 73, 74, 63, 64, 65, 66, 67] (by decide +kernel) (by decide +kernel)) (goodIn_sub (fun _ h => List.mem_cons_of_mem _ (List.mem_append_right _ h)) (by decide +kernel))
set_option maxRecDepth 20000 in
theorem gL_holds_X5_stateAt : GoodIn wsL_holds (wsV RL 40 RX5 yX5_stateAt wsX5_stateAt) := goodIn_app (goodIn_of _ (by decide +kernel)) ggL_holds_X5_stateAt
set_option maxRecDepth 20000 in
theorem ggL_holds_X5_inspected : GoodIn wsL_holds wsX5_inspected := goodIn_ca (goodIn_r _ [45, 28, 29, 46, 30, 31, 32, 4, 33, 8, 34, 35, 36, 68, 69, 70, 71, 72, 73, 74, 63, 64, 65, 66, 67] (by decide +kernel) (by decide +kernel)) (goodIn_sub (fun _ h => List.mem_cons_of_mem _ (List.mem_append_right _ h)) (by decide +kernel))
set_option maxRecDepth 20000 in
theorem gL_holds_X5_inspected : GoodIn wsL_holds (wsV RL 43 RX5 yX5_inspected wsX5_inspected) := goodIn_app (goodIn_of _ (by decide +kernel)) ggL_holds_X5_inspected
set_option maxRecDepth 20000 in
theorem ggL_holds_X5_badIn : GoodIn wsL_holds wsX5_badIn := goodIn_ca (goodIn_r _ [50, 28, 29, 51, 30, 31, 32, 4, 33, 8, 34, 35, 36, 68, 69, 70, 71, 72, 73, 74, 63, 64, 65, 66, 67] (by decide +kernel) (by decide +kernel)) (goodIn_sub (fun _ h => List.mem_cons_of_mem _ (List.mem_append_right _ h)) (by decide +kernel))
set_option maxRecDepth 20000 in
theorem gL_holds_X5_badIn : GoodIn wsL_holds (wsV RL 46 RX5 yX5_badIn wsX5_badIn) := goodIn_app (goodIn_of _ (by decide +kernel)) ggL_holds_X5_badIn
set_option maxRecDepth 20000 in
theorem ggL_holds_X5_state : GoodIn wsL_holds wsX5_state := goodIn_r _ [55, 56, 57, 63, 64, 65, 66, 67, 75, 76, 77, 78, 79, 80, 81, 82] (by decide +kernel) (by decide +kernel)
set_option maxRecDepth 20000 in
theorem gL_holds_X5_state : GoodIn wsL_holds (wsV RL 49 RX5 yX5_state wsX5_state) := goodIn_app (goodIn_of _ (by decide +kernel)) ggL_holds_X5_state
set_option maxRecDepth 20000 in
theorem ggL_holds_X5_isSkipping : GoodIn wsL_holds wsX5_isSkipping := goodIn_r _ [61, 56, 62, 63, 64, 65, 66, 67, 75, 76, 77, 78, 79, 80, 81, 82] (by decide +kernel) (by decide +kernel)
set_option maxRecDepth 20000 in
theorem gL_holds_X5_isSkipping : GoodIn wsL_holds (wsV RL 52 RX5 yX5_isSkipping wsX5_isSkipping) := goodIn_app (goodIn_of _ (by decide +kernel)) ggL_holds_X5_isSkipping
set_option maxRecDepth 20000 in
theorem ggL_again_X5_verdict : GoodIn wsL_again wsX5_verdict := goodIn_ca (goodIn_r _ [5, 6, 7, 8, 9, 10, 11, 4, 12, 13, 14, 15, 16, 201, 202, 203, 204, 205, 206, 207, 208, 209, 210, 211, 212] (by decide +kernel) (by decide +kernel)) (goodIn_sub (fun _ h => List.mem_cons_of_mem _ (List.mem_append_left _ (List.mem_append_right _ h))) (by decide +kernel))
set_option maxRecDepth 20000 in
theorem gL_again_X5_verdict : GoodIn wsL_again (wsV RL 37 RX5 yX5_verdict wsX5_verdict) := goodIn_app (goodIn_of _ (by decide +kernel)) ggL_again_X5_verdict
set_option maxRecDepth 20000 in
theorem ggL_again_X5_state : GoodIn wsL_again wsX5_state := goodIn_r _ [20, 21, 22, 208, 209, 210, 211, 212, 213, 214, 215, 216, 217, 218, 219, 220] (by decide +kernel) (by decide +kernel)
set_option maxRecDepth 20000 in
theorem gL_again_X5_state : GoodIn wsL_again (wsV RL 49 RX5 yX5_state wsX5_state) := goodIn_app (goodIn_of _ (by decide +kernel)) ggL_again_X5_state
set_option maxRecDepth 20000 in
theorem ggL_again_X5_lots : GoodIn wsL_again wsX5_lots := goodIn_r _ [26, 27, 208, 209, 210, 211, 212] (by decide +kernel) (by decide +kernel)
set_option maxRecDepth 20000 in
theorem gL_again_X5_lots : GoodIn wsL_again (wsV RL 30 RX5 yX5_lots wsX5_lots) := goodIn_app (goodIn_of _ (by decide +kernel)) ggL_again_X5_lots
set_option maxRecDepth 20000 in
theorem ggL_again_X5_correct : GoodIn wsL_again wsX5_correct := goodIn_ca (goodIn_ca (goodIn_r _ [31, 32, 33, 6, 7, 34, 35, 36, 4, 37, 38, 9, 10, 11, 12, 13, 14, 15, 16, 39, 40, 41, 42, 21, 43, 44, 45, 46, 47, 48, 49, 50, 51, 52, 53, 54, 55, 56, 57, 58, 59, 60, 61, 62, 63, 64, 65, 66, 67, 68, 69, 70, 71, 72, 73, 74, 75, 76, 77, 78, 79, 80, 81, 82, 83, 84, 85, 86, 87, 88, 89, 90, 91, 92, 93, 94, 95, 96, 97, 98, 99, 100, 101, 102, 103, 104, 105, 106, 107, 108, 109, 110, 111, 112, 113, 114, 115, 116, 117, 118, 119, 120, 121, 122, 123, 124, 125, 126, 127, 128, 129, 130, 131, 132, 133, 134, 135, 136, 137, 138, 139, 140, 141, 142, 143, 144, 145, 146, 147, 148, 149, 150, 151, 152, 153, 154, 155, 156, 157, 158, 159, 160, 161, 162, 163, 164, 165, 166, 167, 168, 169, 170, 171, 172, 173, 174, 175, 176, 201, 202, 203, 204, 205, 206, 207, 208, 209, 210, 211, 212, 213, 214, 215, 216, 217, 218, 219, 220, 221, 222, 223, 224, 225, 226] (by decide +kernel) (by decide +kernel)) (goodIn_sub (fun _ h => List.mem_cons_of_mem _ (List.mem_append_right _ h)) (by decide +kernel))) (goodIn_sub (fun _ h => List.mem_cons_of_mem _ (List.mem_append_left _ (List.mem_append_right _ h))) (by decide +kernel))
set_option maxRecDepth 20000 in
theorem gL_again_X5_correct : GoodIn wsL_again (wsV RL 56 RX5 yX5_correct wsX5_correct) := goodIn_app (goodIn_of _ (by decide +kernel)) ggL_again_X5_correct
set_option maxRecDepth 20000 in
theorem ggL_again_X5_strike : GoodIn wsL_again wsX5_strike := goodIn_ca (goodIn_r _ [180, 6, 7, 13, 27, 14, 15, 4, 16, 39, 40, 41, 42, 21, 43, 44, 45, 46, 47, 48, 49, 50, 51, 52, 53, 54, 55, 56, 57, 58, 59, 60, 61, 62, 63, 64, 65, 66, 67, 68, 69, 70, 71, 72, 73, 74, 75, 76, 77, 78, 79, 80, 81, 82, 83, 84, 85, 86, 87, 88, 89, 90, 91, 92, 93, 94, 95, 96, 97, 98, 99, 100, 101, 102, 103, 104, 105, 106, 107, 108, 109, 110, 111, 112, 113, 114, 115, 116, 117, 118, 119, 120, 121, 122, 123, 124, 125, 126, 127, 128, 129, 130, 131, 132, 133, 134, 135, 136, 137, 138, 139, 140, 141, 142, 143, 144, 145, 146, 147, 148, 149, 150, 151, 152, 153, 154, 155, 156, 157, 158, 159, 160, 161, 162, 163, 164, 165, 166, 167, 168, 169, 170, 171, 172, 173, 174, 175, 176, 208, 209, 210, 211, 212, 213, 214, 215, 216, 217, 218, 219, 220, 221, 222, 223, 201, 202, 203, 204, 205, 206, 207, 224, 225, 226] (by decide +kernel) (by decide +kernel)) (goodIn_sub (fun _ h => List.mem_cons_of_mem _ (List.mem_append_left _ (List.mem_append_right _ h))) (by decide +kernel))
set_option maxRecDepth 20000 in
theorem gL_again_X5_strike : GoodIn wsL_again (wsV RL 17 RX5 yX5_strike wsX5_strike) := goodIn_app (goodIn_of _ (by decide +kernel)) ggL_again_X5_strike
set_option maxRecDepth 20000 in
theorem ggL_again_X5_record : GoodIn wsL_again wsX5_record := goodIn_ca (goodIn_ca (goodIn_r _ [184, 32, 33, 6, 7, 13, 27, 185, 186, 74, 14, 15, 4, 16, 187, 188, 189, 190, 191, 192, 35, 36, 37, 38, 193, 194, 195, 196, 197, 198, 199, 200, 123, 39, 40, 41, 42, 21, 43, 44, 45, 46, 47, 48, 49, 50, 51, 52, 53, 54, 55, 56, 57, 58, 59, 60, 61, 62, 63, 64, 65, 66, 67, 68, 69, 70, 71, 72, 73, 75, 76, 77, 78, 79, 80, 81, 82, 83, 84, 85, 86, 87, 88, 89, 90, 91, 92, 93, 94, 95, 96, 97, 98, 99, 100, 101, 102, 103, 104, 105, 106, 107, 108, 109, 110, 111, 112, 113, 114, 115, 116, 117, 118, 119, 120, 121, 122, 124, 125, 126, 127, 128, 129, 130, 131, 132, 133, 134, 135, 136, 137, 138, 139, 140, 141, 142, 143, 144, 145, 146, 147, 148, 149, 150, 151, 152, 153, 154, 155, 156, 157, 158, 159, 160, 161, 162, 163, 164, 165, 166, 167, 168, 169, 170, 171, 172, 173, 174, 175, 176, 208, 209, 210, 211, 212, 201, 202, 203, 204, 205, 206, 207, 213, 214, 215, 216, 217, 218, 219, 220, 221, 222, 223, 224, 225, 226] (by decide +kernel) (by decide +kernel)) (goodIn_sub (fun _ h => List.mem_cons_of_mem _ (List.mem_append_right _ h)) (by decide +kernel))) (goodIn_sub (fun _ h => List.mem_cons_of_mem _ (List.mem_append_left _ (List.mem_append_right _ h))) (by decide +kernel))
set_option maxRecDepth 20000 in
theorem gL_again_X5_record : GoodIn wsL_again (wsV RL 9 RX5 yX5_record wsX5_record) := goodIn_app (goodIn_of _ (by decide +kernel)) ggL_again_X5_record
set_option maxRecDepth 20000 in
theorem ggL_curves_L_low : GoodIn wsL_curves wsL_low := goodIn_r _ [4, 5] (by decide +kernel) (by decide +kernel)
set_option maxRecDepth 20000 in
theorem gL_curves_L_low : GoodIn wsL_curves (va_wsS RL 21 yL_low wsL_low) := goodIn_app (goodIn_of _ (by decide +kernel)) ggL_curves_L_low
set_option maxRecDepth 20000 in
theorem ggL_curves_X5_accepted : GoodIn wsL_curves wsX5_accepted := goodIn_ca (goodIn_r _ [10, 11, 12, 13, 14, 9, 15, 16, 17, 18, 19, 20, 21, 22, 23, 24, 25] (by decide +kernel) (by decide +kernel)) (goodIn_sub (fun _ h => List.mem_cons_of_mem _ (List.mem_append_right _ h)) (by decide +kernel))
set_option maxRecDepth 20000 in
theorem gL_curves_X5_accepted : GoodIn wsL_curves (wsV RL 60 RX5 yX5_accepted wsX5_accepted) := goodIn_app (goodIn_of _ (by decide +kernel)) ggL_curves_X5_accepted
set_option maxRecDepth 20000 in
theorem ggL_curves_X5_acceptedByListing : GoodIn wsL_curves wsX5_acceptedByListing := goodIn_ca (goodIn_r _ [29, 11, 12, 13, 14, 9, 15, 30, 31, 18, 32, 33, 34, 35, 36, 37, 38, 39, 40, 41, 42, 43] (by decide +kernel) (by decide +kernel)) (goodIn_sub (fun _ h => List.mem_cons_of_mem _ (List.mem_append_right _ h)) (by decide +kernel))
set_option maxRecDepth 20000 in
theorem gL_curves_X5_acceptedByListing : GoodIn wsL_curves (wsV RL 64 RX5 yX5_acceptedByListing wsX5_acceptedByListing) := goodIn_app (goodIn_of _ (by decide +kernel)) ggL_curves_X5_acceptedByListing
set_option maxRecDepth 20000 in
theorem ggL_curves_X5_samples : GoodIn wsL_curves wsX5_samples := goodIn_ca (goodIn_r _ [47, 11, 12, 13, 14, 9, 15, 48, 24, 18, 25] (by decide +kernel) (by decide +kernel)) (goodIn_sub (fun _ h => List.mem_cons_of_mem _ (List.mem_append_right _ h)) (by decide +kernel))
set_option maxRecDepth 20000 in
theorem gL_curves_X5_samples : GoodIn wsL_curves (wsV RL 67 RX5 yX5_samples wsX5_samples) := goodIn_app (goodIn_of _ (by decide +kernel)) ggL_curves_X5_samples
set_option maxRecDepth 20000 in
theorem ggL_law_X5_init : GoodIn wsL_law wsX5_init := goodIn_r _ [5, 6, 7, 8, 9, 10, 11, 12, 13, 14, 15, 16, 17, 18, 19, 20, 21, 22, 23, 24, 25, 26, 27, 28, 29, 30, 31, 32, 33, 34, 35, 36, 37, 38, 335, 336, 337, 338, 339, 340, 341, 342, 343, 344, 345, 346, 347, 348, 349, 350, 351, 352, 353] (by decide +kernel) (by decide +kernel)
set_option maxRecDepth 20000 in
theorem gL_law_X5_init : GoodIn wsL_law (wsX5_init) := ggL_law_X5_init
set_option maxRecDepth 20000 in
theorem ggL_law_L_holds : GoodIn wsL_law wsL_holds := goodIn_ca (goodIn_ca (goodIn_ca (goodIn_r _ [42, 43, 44, 45, 2, 46, 47, 48, 10, 49, 50, 51, 52, 53, 54, 55, 56, 57, 58, 59, 60, 61, 62, 63, 64, 65, 66, 67, 68, 69, 70, 71, 72, 73, 74, 75, 76, 77, 78, 79, 80, 81, 82, 83, 84, 85, 86, 87, 88, 89, 90, 91, 92, 93, 94, 95, 20, 96, 97, 98, 99, 100, 101, 335, 336, 337, 338, 339, 354, 355, 356, 357, 358, 359, 360, 343, 344, 345, 346, 347, 348, 349, 350] (by decide +kernel) (by decide +kernel)) (goodIn_sub (fun _ h => List.mem_append_left _ (List.mem_append_left _ (List.mem_append_right _ h))) (by decide +kernel))) (goodIn_sub (fun _ h => List.mem_append_left _ (List.mem_append_right _ h)) (by decide +kernel))) (goodIn_sub (fun _ h => List.mem_append_right _ h) (by decide +kernel))
set_option maxRecDepth 20000 in
theorem gL_law_L_holds : GoodIn wsL_law (va_wsS RL 72 yL_holds wsL_holds) := goodIn_app (goodIn_of _ (by decide +kernel)) ggL_law_L_holds
set_option maxRecDepth 20000 in
theorem ggL_law_L_cell : GoodIn wsL_law wsL_cell := goodIn_r _ [104, 105] (by decide +kernel) (by decide +kernel)
set_option maxRecDepth 20000 in
theorem gL_law_L_cell : GoodIn wsL_law (va_wsS RL 76 yL_cell wsL_cell) := goodIn_app (goodIn_of _ (by decide +kernel)) ggL_law_L_cell
set_option maxRecDepth 20000 in
theorem ggL_law_L_low : GoodIn wsL_law wsL_low := goodIn_r _ [108, 109] (by decide +kernel) (by decide +kernel)
set_option maxRecDepth 20000 in
theorem gL_law_L_low : GoodIn wsL_law (va_wsS RL 21 yL_low wsL_low) := goodIn_app (goodIn_of _ (by decide +kernel)) ggL_law_L_low
set_option maxRecDepth 20000 in
theorem ggL_law_L_findings : GoodIn wsL_law wsL_findings := goodIn_r _ [112, 106, 107, 41, 108, 109] (by decide +kernel) (by decide +kernel)
set_option maxRecDepth 20000 in
theorem gL_law_L_findings : GoodIn wsL_law (va_wsS RL 80 yL_findings wsL_findings) := goodIn_app (goodIn_of _ (by decide +kernel)) ggL_law_L_findings
set_option maxRecDepth 20000 in
theorem ggL_law_X5_lots : GoodIn wsL_law wsX5_lots := goodIn_r _ [56, 57, 335, 336, 337, 338, 339] (by decide +kernel) (by decide +kernel)
set_option maxRecDepth 20000 in
theorem gL_law_X5_lots : GoodIn wsL_law (wsV RL 30 RX5 yX5_lots wsX5_lots) := goodIn_app (goodIn_of _ (by decide +kernel)) ggL_law_X5_lots
set_option maxRecDepth 20000 in
theorem ggL_law_L_record : GoodIn wsL_law wsL_record := goodIn_ca (goodIn_ca (goodIn_r _ [115, 116, 117, 118, 119, 2, 120, 47, 48, 68, 69, 10, 57, 9, 121, 122, 74, 75, 76, 123, 124, 125, 50, 51, 52, 126, 127, 128, 129, 130, 131, 132, 133, 7, 8, 134, 135, 136, 137, 138, 139, 140, 20, 12, 16, 141, 142, 143, 19, 144, 145, 146, 147, 148, 149, 150, 151, 32, 152, 153, 154, 31, 155, 156, 157, 158, 159, 160, 161, 162, 163, 164, 165, 166, 167, 168, 169, 170, 171, 172, 173, 174, 175, 176, 177, 178, 179, 15, 180, 181, 182, 183, 184, 185, 186, 187, 188, 189, 190, 191, 24, 192, 193, 194, 195, 196, 197, 198, 199, 200, 25, 201, 202, 203, 204, 205, 206, 207, 208, 209, 210, 211, 212, 213, 214, 215, 216, 217, 218, 219, 220, 221, 222, 223, 224, 225, 226, 36, 227, 38, 228, 229, 230, 231, 232, 233, 234, 235, 236, 237, 238, 239, 240, 241, 242, 243, 244, 245, 246, 247, 248, 249, 250, 251, 252, 253, 254, 255, 256, 257, 258, 259, 260, 261, 262, 335, 336, 337, 338, 339, 354, 355, 356, 357, 358, 359, 360, 343, 344, 345, 346, 347, 348, 349, 350, 351, 352, 353, 340, 341, 342] (by decide +kernel) (by decide +kernel)) (goodIn_sub (fun _ h => List.mem_append_left _ (List.mem_append_left _ (List.mem_append_right _ h))) (by decide +kernel))) (goodIn_sub (fun _ h => List.mem_append_right _ h) (by decide +kernel))
set_option maxRecDepth 20000 in
theorem gL_law_L_record : GoodIn wsL_law (va_wsS RL 83 yL_record wsL_record) := goodIn_app (goodIn_of _ (by decide +kernel)) ggL_law_L_record
set_option maxRecDepth 20000 in
theorem ggL_law_L_again : GoodIn wsL_law wsL_again := goodIn_ca (goodIn_ca (goodIn_r _ [265, 64, 65, 66, 2, 67, 68, 69, 49, 70, 71, 72, 73, 10, 74, 75, 76, 92, 93, 94, 95, 20, 96, 53, 54, 55, 56, 57, 266, 267, 268, 269, 47, 48, 270, 126, 127, 128, 129, 137, 138, 139, 140, 12, 16, 141, 142, 143, 19, 144, 145, 146, 147, 148, 149, 150, 151, 32, 152, 153, 154, 31, 155, 156, 157, 158, 159, 160, 161, 162, 163, 164, 165, 166, 122, 167, 168, 169, 170, 171, 172, 173, 174, 175, 176, 177, 178, 179, 15, 180, 181, 182, 183, 184, 185, 186, 187, 188, 189, 190, 191, 24, 192, 193, 194, 195, 196, 197, 198, 199, 200, 25, 201, 202, 203, 204, 205, 206, 207, 208, 209, 210, 211, 136, 212, 213, 214, 215, 216, 217, 218, 219, 220, 221, 222, 223, 224, 225, 226, 36, 227, 38, 228, 229, 230, 231, 232, 233, 234, 235, 236, 237, 238, 239, 240, 241, 242, 243, 244, 245, 246, 247, 248, 249, 250, 251, 252, 253, 254, 255, 256, 257, 258, 259, 260, 261, 262, 271, 272, 273, 274, 117, 118, 119, 120, 9, 121, 123, 124, 125, 50, 51, 52, 130, 131, 132, 133, 7, 8, 134, 135, 354, 355, 356, 357, 358, 359, 360, 335, 336, 337, 338, 339, 343, 344, 345, 346, 347, 348, 349, 350, 351, 352, 353, 340, 341, 342] (by decide +kernel) (by decide +kernel)) (goodIn_sub (fun _ h => List.mem_append_right _ h) (by decide +kernel))) (goodIn_sub (fun _ h => List.mem_append_left _ (List.mem_append_left _ (List.mem_append_right _ h))) (by decide +kernel))
set_option maxRecDepth 20000 in
theorem gL_law_L_again : GoodIn wsL_law (va_wsS RL 86 yL_again wsL_again) := goodIn_app (goodIn_of _ (by decide +kernel)) ggL_law_L_again
set_option maxRecDepth 20000 in
theorem ggL_law_L_strike : GoodIn wsL_law wsL_strike := goodIn_ca (goodIn_r _ [277, 116, 271, 272, 273, 2, 274, 68, 69, 10, 57, 74, 75, 76, 137, 138, 139, 140, 20, 12, 16, 141, 142, 143, 19, 144, 145, 146, 147, 148, 149, 150, 151, 32, 152, 153, 154, 31, 155, 156, 157, 158, 159, 160, 161, 162, 163, 164, 165, 166, 122, 167, 168, 169, 170, 171, 172, 173, 174, 175, 176, 177, 178, 179, 15, 180, 181, 182, 183, 184, 185, 186, 187, 188, 189, 190, 191, 24, 192, 193, 194, 195, 196, 197, 198, 199, 200, 25, 201, 202, 203, 204, 205, 206, 207, 208, 209, 210, 211, 136, 212, 213, 214, 215, 216, 217, 218, 219, 220, 221, 222, 223, 224, 225, 226, 36, 227, 38, 228, 229, 230, 231, 232, 233, 234, 235, 236, 237, 238, 239, 240, 241, 242, 243, 244, 245, 246, 247, 248, 249, 250, 251, 252, 253, 254, 255, 256, 257, 258, 259, 260, 261, 262, 335, 336, 337, 338, 339, 343, 344, 345, 346, 347, 348, 349, 350, 351, 352, 353, 354, 355, 356, 357, 358, 359, 360, 340, 341, 342] (by decide +kernel) (by decide +kernel)) (goodIn_sub (fun _ h => List.mem_append_right _ h) (by decide +kernel))
set_option maxRecDepth 20000 in
theorem gL_law_L_strike : GoodIn wsL_law (va_wsS RL 90 yL_strike wsL_strike) := goodIn_app (goodIn_of _ (by decide +kernel)) ggL_law_L_strike
set_option maxRecDepth 20000 in
theorem ggL_law_X5_setPlan : GoodIn wsL_law wsX5_setPlan := goodIn_ca (goodIn_r _ [281, 47, 48, 16, 282, 283, 50, 51, 2, 52, 137, 138, 139, 140, 20, 12, 10, 141, 142, 143, 19, 144, 145, 146, 147, 148, 149, 150, 151, 32, 152, 153, 154, 31, 155, 156, 157, 158, 159, 160, 161, 162, 163, 164, 165, 166, 122, 167, 168, 169, 170, 171, 172, 173, 174, 175, 176, 177, 178, 179, 15, 180, 181, 182, 183, 184, 185, 186, 187, 188, 189, 190, 191, 24, 192, 193, 194, 195, 196, 197, 198, 199, 200, 25, 201, 202, 203, 204, 205, 206, 207, 208, 209, 210, 211, 136, 212, 213, 214, 215, 216, 217, 218, 219, 220, 221, 222, 223, 224, 225, 226, 36, 227, 38, 228, 229, 230, 231, 232, 233, 234, 235, 236, 237, 238, 239, 240, 241, 242, 243, 244, 245, 246, 247, 248, 249, 250, 251, 252, 253, 254, 255, 256, 257, 258, 259, 260, 261, 262, 335, 336, 337, 338, 339, 340, 341, 342, 343, 344, 345, 346, 347, 348, 349, 350, 351, 352, 353, 354, 355, 356, 357, 358, 359, 360] (by decide +kernel) (by decide +kernel)) (goodIn_sub (fun _ h => List.mem_append_left _ (List.mem_append_left _ (List.mem_append_right _ h))) (by decide +kernel))
set_option maxRecDepth 20000 in
theorem gL_law_X5_setPlan : GoodIn wsL_law (wsV RL 93 RX5 yX5_setPlan wsX5_setPlan) := goodIn_app (goodIn_of _ (by decide +kernel)) ggL_law_X5_setPlan
set_option maxRecDepth 20000 in
theorem ggL_law_X5_setWays : GoodIn wsL_law wsX5_setWays := goodIn_ca (goodIn_r _ [287, 47, 48, 16, 288, 20, 289, 290, 50, 51, 2, 52, 137, 138, 139, 140, 12, 10, 141, 142, 143, 19, 144, 145, 146, 147, 148, 149, 150, 151, 32, 152, 153, 154, 31, 155, 156, 157, 158, 159, 160, 161, 162, 163, 164, 165, 166, 122, 167, 168, 169, 170, 171, 172, 173, 174, 175, 176, 177, 178, 179, 15, 180, 181, 182, 183, 184, 185, 186, 187, 188, 189, 190, 191, 24, 192, 193, 194, 195, 196, 197, 198, 199, 200, 25, 201, 202, 203, 204, 205, 206, 207, 208, 209, 210, 211, 136, 212, 213, 214, 215, 216, 217, 218, 219, 220, 221, 222, 223, 224, 225, 226, 36, 227, 38, 228, 229, 230, 231, 232, 233, 234, 235, 236, 237, 238, 239, 240, 241, 242, 243, 244, 245, 246, 247, 248, 249, 250, 251, 252, 253, 254, 255, 256, 257, 258, 259, 260, 261, 262, 335, 336, 337, 338, 339, 340, 341, 342, 343, 344, 345, 346, 347, 348, 349, 350, 351, 352, 353, 354, 355, 356, 357, 358, 359, 360] (by decide +kernel) (by decide +kernel)) (goodIn_sub (fun _ h => List.mem_append_left _ (List.mem_append_left _ (List.mem_append_right _ h))) (by decide +kernel))
set_option maxRecDepth 20000 in
theorem gL_law_X5_setWays : GoodIn wsL_law (wsV RL 97 RX5 yX5_setWays wsX5_setWays) := goodIn_app (goodIn_of _ (by decide +kernel)) ggL_law_X5_setWays
set_option maxRecDepth 20000 in
theorem ggL_law_X5_toggleMark : GoodIn wsL_law wsX5_toggleMark := goodIn_ca (goodIn_r _ [294, 47, 48, 12, 74, 75, 2, 76, 137, 138, 139, 140, 20, 10, 16, 141, 142, 143, 19, 144, 145, 146, 147, 148, 149, 150, 151, 32, 152, 153, 154, 31, 155, 156, 157, 158, 159, 160, 161, 162, 163, 164, 165, 166, 122, 167, 168, 169, 170, 171, 172, 173, 174, 175, 176, 177, 178, 179, 15, 180, 181, 182, 183, 184, 185, 186, 187, 188, 189, 190, 191, 24, 192, 193, 194, 195, 196, 197, 198, 199, 200, 25, 201, 202, 203, 204, 205, 206, 207, 208, 209, 210, 211, 136, 212, 213, 214, 215, 216, 217, 218, 219, 220, 221, 222, 223, 224, 225, 226, 36, 227, 38, 228, 229, 230, 231, 232, 233, 234, 235, 236, 237, 238, 239, 240, 241, 242, 243, 244, 245, 246, 247, 248, 249, 250, 251, 252, 253, 254, 255, 256, 257, 258, 259, 260, 261, 262, 335, 336, 337, 338, 339, 343, 344, 345, 346, 347, 348, 349, 350, 351, 352, 353, 354, 355, 356, 357, 358, 359, 360, 340, 341, 342] (by decide +kernel) (by decide +kernel)) (goodIn_sub (fun _ h => List.mem_append_left _ (List.mem_append_left _ (List.mem_append_right _ h))) (by decide +kernel))
set_option maxRecDepth 20000 in
theorem gL_law_X5_toggleMark : GoodIn wsL_law (wsV RL 101 RX5 yX5_toggleMark wsX5_toggleMark) := goodIn_app (goodIn_of _ (by decide +kernel)) ggL_law_X5_toggleMark
set_option maxRecDepth 20000 in
theorem ggL_law_L_curves : GoodIn wsL_law wsL_curves := goodIn_ca (goodIn_r _ [297, 106, 107, 41, 108, 109, 298, 299, 300, 2, 301, 47, 48, 50, 51, 52, 302, 303, 304, 305, 306, 307, 308, 309, 310, 311, 312, 313, 314, 315, 316, 317, 318, 319, 320, 321, 322, 323, 324, 325, 326, 327, 328, 329, 330, 331, 332, 333, 334] (by decide +kernel) (by decide +kernel)) (goodIn_sub (fun _ h => List.mem_append_left _ (List.mem_append_left _ (List.mem_append_right _ h))) (by decide +kernel))
set_option maxRecDepth 20000 in
theorem gL_law_L_curves : GoodIn wsL_law (va_wsS RL 105 yL_curves wsL_curves) := goodIn_app (goodIn_of _ (by decide +kernel)) ggL_law_L_curves
