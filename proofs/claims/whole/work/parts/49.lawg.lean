set_option maxRecDepth 20000 in
theorem ggL_law_X3_init : GoodIn wsL_law wsX3_init := goodIn_r _ [9, 10, 11, 12, 13, 14, 15, 16, 17, 18, 19, 20, 21, 22, 23, 24, 25, 26, 27, 28, 29, 30, 31, 32, 6, 33, 34, 35, 36, 37, 38, 39, 40, 41, 42, 43, 44, 45, 46, 47, 48, 49, 50, 51, 52, 592, 593, 594, 595, 596, 597, 567, 568, 569, 570, 571, 572, 598, 599, 600, 601, 602, 603, 604, 605, 606] (by decide +kernel) (by decide +kernel)
set_option maxRecDepth 20000 in
theorem gL_law_X3_init : GoodIn wsL_law (wsX3_init) := ggL_law_X3_init
set_option maxRecDepth 20000 in
theorem ggL_law_X4_init : GoodIn wsL_law wsX4_init := goodIn_r _ [55, 56, 11, 12, 25, 57, 58, 59, 60, 61, 62, 63, 64, 65, 66, 67, 68, 6, 69, 70, 71, 72, 73, 573, 574, 575, 576, 577, 578, 579, 580, 581, 582, 583, 584, 585, 586, 587, 588, 589, 590, 591] (by decide +kernel) (by decide +kernel)
set_option maxRecDepth 20000 in
theorem gL_law_X4_init : GoodIn wsL_law (wsX4_init) := ggL_law_X4_init
set_option maxRecDepth 20000 in
theorem ggL_law_L_hold : GoodIn wsL_law wsL_hold := goodIn_ca (goodIn_ca (goodIn_r _ [77, 78, 79, 80, 81, 82, 2, 83, 16, 84, 85, 86, 87, 88, 89, 90, 91, 92, 93, 94, 95, 15, 96, 97, 32, 98, 99, 100, 101, 102, 103, 104, 105, 106, 107, 108, 109, 110, 35, 111, 112, 113, 114, 115, 116, 117, 118, 119, 120, 121, 122, 123, 124, 125, 126, 127, 33, 34, 128, 129, 130, 131, 132, 133, 134, 135, 567, 568, 569, 570, 571, 572, 592, 593, 594, 595, 596, 597] (by decide +kernel) (by decide +kernel)) (goodIn_sub (fun _ h => List.mem_append_left _ (List.mem_append_right _ h)) (by decide +kernel))) (goodIn_sub (fun _ h => List.mem_append_right _ h) (by decide +kernel))
set_option maxRecDepth 20000 in
theorem gL_law_L_hold : GoodIn wsL_law (va_wsS RL 82 yL_hold wsL_hold) := goodIn_app (goodIn_of _ (by decide +kernel)) ggL_law_L_hold
set_option maxRecDepth 20000 in
theorem ggL_law_X4_hold : GoodIn wsL_law wsX4_hold := goodIn_r _ [139, 140, 57, 141, 142, 5, 143, 144, 145, 146, 147, 148, 149, 150, 151, 152, 153, 154, 155, 156, 157, 158, 159, 160, 161, 70, 71, 162, 163, 164, 165, 69, 166, 167, 168, 169, 170, 171, 172, 173, 174, 175, 176, 573, 574, 575, 576, 577, 578, 579, 580, 581, 582, 583, 584, 585, 586, 587, 588, 589, 590, 591] (by decide +kernel) (by decide +kernel)
set_option maxRecDepth 20000 in
theorem gL_law_X4_hold : GoodIn wsL_law (wsV RL 87 RX4 yX4_hold wsX4_hold) := goodIn_app (goodIn_of _ (by decide +kernel)) ggL_law_X4_hold
set_option maxRecDepth 20000 in
theorem ggL_law_X4_thrown : GoodIn wsL_law wsX4_thrown := goodIn_r _ [180, 140, 573, 574, 575, 576, 577, 578, 579, 580, 581, 582, 583, 584, 585, 586, 587, 588, 589, 590, 591] (by decide +kernel) (by decide +kernel)
set_option maxRecDepth 20000 in
theorem gL_law_X4_thrown : GoodIn wsL_law (wsV RL 88 RX4 yX4_thrown wsX4_thrown) := goodIn_app (goodIn_of _ (by decide +kernel)) ggL_law_X4_thrown
set_option maxRecDepth 20000 in
theorem ggL_law_L_acquire : GoodIn wsL_law wsL_acquire := goodIn_ca (goodIn_ca (goodIn_r _ [183, 78, 79, 184, 185, 186, 2, 187, 188, 16, 26, 20, 84, 85, 86, 87, 88, 89, 90, 91, 92, 93, 94, 95, 15, 96, 97, 32, 98, 99, 100, 101, 102, 103, 104, 105, 106, 107, 108, 109, 110, 35, 111, 112, 113, 114, 115, 116, 117, 118, 119, 120, 121, 122, 123, 124, 125, 126, 127, 33, 34, 128, 129, 130, 131, 132, 133, 134, 135, 189, 19, 190, 191, 192, 193, 194, 195, 41, 45, 196, 197, 198, 199, 200, 201, 202, 203, 204, 205, 206, 42, 207, 567, 568, 569, 570, 571, 572, 592, 593, 594, 595, 596, 597, 598, 599, 600, 601, 602, 603, 604] (by decide +kernel) (by decide +kernel)) (goodIn_sub (fun _ h => List.mem_append_left _ (List.mem_append_right _ h)) (by decide +kernel))) (goodIn_sub (fun _ h => List.mem_append_right _ h) (by decide +kernel))
set_option maxRecDepth 20000 in
theorem gL_law_L_acquire : GoodIn wsL_law (va_wsS RL 91 yL_acquire wsL_acquire) := goodIn_app (goodIn_of _ (by decide +kernel)) ggL_law_L_acquire
set_option maxRecDepth 20000 in
theorem ggL_law_X4_acquire : GoodIn wsL_law wsX4_acquire := goodIn_r _ [211, 140, 212, 57, 60, 213, 141, 142, 5, 143, 144, 145, 146, 147, 148, 149, 150, 151, 152, 153, 154, 155, 156, 157, 158, 159, 160, 161, 70, 71, 162, 163, 164, 165, 69, 166, 167, 168, 169, 170, 171, 172, 173, 174, 175, 176, 214, 215, 216, 217, 61, 65, 62, 218, 219, 220, 221, 222, 223, 573, 574, 575, 576, 577, 578, 579, 580, 581, 582, 583, 584, 585, 586, 587, 588, 589, 590, 591] (by decide +kernel) (by decide +kernel)
set_option maxRecDepth 20000 in
theorem gL_law_X4_acquire : GoodIn wsL_law (wsV RL 94 RX4 yX4_acquire wsX4_acquire) := goodIn_app (goodIn_of _ (by decide +kernel)) ggL_law_X4_acquire
set_option maxRecDepth 20000 in
theorem ggL_law_L_held : GoodIn wsL_law wsL_held := goodIn_ca (goodIn_r _ [226, 78, 227, 228, 229, 2, 230, 16, 89, 90, 91, 92, 93, 94, 87, 88, 95, 15, 96, 97, 32, 98, 99, 567, 568, 569, 570, 571, 572, 592, 593, 594, 595, 596, 597] (by decide +kernel) (by decide +kernel)) (goodIn_sub (fun _ h => List.mem_append_left _ (List.mem_append_right _ h)) (by decide +kernel))
set_option maxRecDepth 20000 in
theorem gL_law_L_held : GoodIn wsL_law (va_wsS RL 95 yL_held wsL_held) := goodIn_app (goodIn_of _ (by decide +kernel)) ggL_law_L_held
set_option maxRecDepth 20000 in
theorem ggL_law_X4_held : GoodIn wsL_law wsX4_held := goodIn_r _ [234, 140, 57, 144, 145, 5, 146, 147, 148, 149, 150, 151, 152, 153, 573, 574, 575, 576, 577, 578, 579, 580, 581, 582, 583, 584, 585, 586, 587, 588, 589, 590, 591] (by decide +kernel) (by decide +kernel)
set_option maxRecDepth 20000 in
theorem gL_law_X4_held : GoodIn wsL_law (wsV RL 98 RX4 yX4_held wsX4_held) := goodIn_app (goodIn_of _ (by decide +kernel)) ggL_law_X4_held
set_option maxRecDepth 20000 in
theorem ggL_law_L_shareNumerator : GoodIn wsL_law wsL_shareNumerator := goodIn_ca (goodIn_r _ [237, 78, 238, 239, 240, 2, 241, 16, 89, 90, 91, 92, 93, 94, 87, 88, 242, 15, 243, 244, 33, 567, 568, 569, 570, 571, 572, 592, 593, 594, 595, 596, 597] (by decide +kernel) (by decide +kernel)) (goodIn_sub (fun _ h => List.mem_append_left _ (List.mem_append_right _ h)) (by decide +kernel))
set_option maxRecDepth 20000 in
theorem gL_law_L_shareNumerator : GoodIn wsL_law (va_wsS RL 99 yL_shareNumerator wsL_shareNumerator) := goodIn_app (goodIn_of _ (by decide +kernel)) ggL_law_L_shareNumerator
set_option maxRecDepth 20000 in
theorem ggL_law_X4_shareNumerator : GoodIn wsL_law wsX4_shareNumerator := goodIn_r _ [248, 140, 70, 144, 145, 5, 146, 147, 148, 149, 150, 151, 152, 153, 158, 159, 160, 161, 71, 162, 163, 164, 165, 57, 69, 166, 167, 168, 169, 170, 171, 172, 173, 174, 175, 176, 573, 574, 575, 576, 577, 578, 579, 580, 581, 582, 583, 584, 585, 586, 587, 588, 589, 590, 591] (by decide +kernel) (by decide +kernel)
set_option maxRecDepth 20000 in
theorem gL_law_X4_shareNumerator : GoodIn wsL_law (wsV RL 102 RX4 yX4_shareNumerator wsX4_shareNumerator) := goodIn_app (goodIn_of _ (by decide +kernel)) ggL_law_X4_shareNumerator
set_option maxRecDepth 20000 in
theorem ggL_law_L_shareDenominator : GoodIn wsL_law wsL_shareDenominator := goodIn_ca (goodIn_r _ [251, 78, 252, 253, 254, 2, 255, 16, 89, 90, 91, 92, 93, 94, 87, 88, 256, 15, 257, 258, 34, 567, 568, 569, 570, 571, 572, 592, 593, 594, 595, 596, 597] (by decide +kernel) (by decide +kernel)) (goodIn_sub (fun _ h => List.mem_append_left _ (List.mem_append_right _ h)) (by decide +kernel))
set_option maxRecDepth 20000 in
theorem gL_law_L_shareDenominator : GoodIn wsL_law (va_wsS RL 103 yL_shareDenominator wsL_shareDenominator) := goodIn_app (goodIn_of _ (by decide +kernel)) ggL_law_L_shareDenominator
set_option maxRecDepth 20000 in
theorem ggL_law_X4_shareDenominator : GoodIn wsL_law wsX4_shareDenominator := goodIn_r _ [262, 140, 71, 144, 145, 5, 146, 147, 148, 149, 150, 151, 152, 153, 158, 159, 160, 161, 70, 162, 163, 164, 165, 57, 69, 166, 167, 168, 169, 170, 171, 172, 173, 174, 175, 176, 573, 574, 575, 576, 577, 578, 579, 580, 581, 582, 583, 584, 585, 586, 587, 588, 589, 590, 591] (by decide +kernel) (by decide +kernel)
set_option maxRecDepth 20000 in
theorem gL_law_X4_shareDenominator : GoodIn wsL_law (wsV RL 105 RX4 yX4_shareDenominator wsX4_shareDenominator) := goodIn_app (goodIn_of _ (by decide +kernel)) ggL_law_X4_shareDenominator
set_option maxRecDepth 20000 in
theorem ggL_law_L_shareByRounds : GoodIn wsL_law wsL_shareByRounds := goodIn_ca (goodIn_r _ [265, 78, 266, 267, 268, 2, 269, 16, 89, 90, 91, 92, 93, 94, 87, 88, 270, 15, 271, 272, 36, 273, 274, 275, 276, 277, 32, 37, 98, 99, 567, 568, 569, 570, 571, 572, 592, 593, 594, 595, 596, 597] (by decide +kernel) (by decide +kernel)) (goodIn_sub (fun _ h => List.mem_append_left _ (List.mem_append_right _ h)) (by decide +kernel))
set_option maxRecDepth 20000 in
theorem gL_law_L_shareByRounds : GoodIn wsL_law (va_wsS RL 106 yL_shareByRounds wsL_shareByRounds) := goodIn_app (goodIn_of _ (by decide +kernel)) ggL_law_L_shareByRounds
set_option maxRecDepth 20000 in
theorem ggL_law_X4_shareByRounds : GoodIn wsL_law wsX4_shareByRounds := goodIn_r _ [281, 140, 72, 212, 57, 73, 144, 145, 5, 146, 147, 148, 149, 150, 151, 152, 153, 573, 574, 575, 576, 577, 578, 579, 580, 581, 582, 583, 584, 585, 586, 587, 588, 589, 590, 591] (by decide +kernel) (by decide +kernel)
set_option maxRecDepth 20000 in
theorem gL_law_X4_shareByRounds : GoodIn wsL_law (wsV RL 108 RX4 yX4_shareByRounds wsX4_shareByRounds) := goodIn_app (goodIn_of _ (by decide +kernel)) ggL_law_X4_shareByRounds
set_option maxRecDepth 20000 in
theorem ggL_law_X3_group : GoodIn wsL_law wsX3_group := goodIn_r _ [285, 16, 286, 15, 287, 288, 289, 290, 291, 292, 293, 294, 295, 296, 32, 297, 2, 298, 98, 99, 567, 568, 569, 570, 571, 572, 592, 593, 594, 595, 596, 597] (by decide +kernel) (by decide +kernel)
set_option maxRecDepth 20000 in
theorem gL_law_X3_group : GoodIn wsL_law (wsV RL 109 RX3 yX3_group wsX3_group) := goodIn_app (goodIn_of _ (by decide +kernel)) ggL_law_X3_group
set_option maxRecDepth 20000 in
theorem ggL_law_X4_group : GoodIn wsL_law wsX4_group := goodIn_r _ [302, 140, 303, 304, 305, 5, 306, 57, 573, 574, 575, 576, 577, 578, 579, 580, 581, 582, 583, 584, 585, 586, 587, 588, 589, 590, 591] (by decide +kernel) (by decide +kernel)
set_option maxRecDepth 20000 in
theorem gL_law_X4_group : GoodIn wsL_law (wsV RL 112 RX4 yX4_group wsX4_group) := goodIn_app (goodIn_of _ (by decide +kernel)) ggL_law_X4_group
set_option maxRecDepth 20000 in
theorem ggL_law_L_goodwill : GoodIn wsL_law wsL_goodwill := goodIn_ca (goodIn_r _ [309, 78, 310, 311, 312, 2, 313, 26, 89, 90, 91, 92, 93, 94, 87, 88, 567, 568, 569, 570, 571, 572] (by decide +kernel) (by decide +kernel)) (goodIn_sub (fun _ h => List.mem_append_left _ (List.mem_append_right _ h)) (by decide +kernel))
set_option maxRecDepth 20000 in
theorem gL_law_L_goodwill : GoodIn wsL_law (va_wsS RL 113 yL_goodwill wsL_goodwill) := goodIn_app (goodIn_of _ (by decide +kernel)) ggL_law_L_goodwill
set_option maxRecDepth 20000 in
theorem ggL_law_X4_goodwill : GoodIn wsL_law wsX4_goodwill := goodIn_r _ [317, 140, 60, 144, 145, 5, 146, 147, 148, 149, 150, 151, 152, 153, 573, 574, 575, 576, 577, 578, 579, 580, 581, 582, 583, 584, 585, 586, 587, 588, 589, 590, 591] (by decide +kernel) (by decide +kernel)
set_option maxRecDepth 20000 in
theorem gL_law_X4_goodwill : GoodIn wsL_law (wsV RL 115 RX4 yX4_goodwill wsX4_goodwill) := goodIn_app (goodIn_of _ (by decide +kernel)) ggL_law_X4_goodwill
set_option maxRecDepth 20000 in
theorem ggL_law_L_setBooks : GoodIn wsL_law wsL_setBooks := goodIn_ca (goodIn_r _ [320, 78, 321, 322, 323, 2, 324, 188, 325, 20, 89, 90, 91, 92, 93, 94, 87, 88, 326, 327, 328, 329, 19, 330, 331, 41, 42, 43, 44, 567, 568, 569, 570, 571, 572, 598, 599, 600, 601, 602, 603, 604] (by decide +kernel) (by decide +kernel)) (goodIn_sub (fun _ h => List.mem_append_left _ (List.mem_append_right _ h)) (by decide +kernel))
set_option maxRecDepth 20000 in
theorem gL_law_L_setBooks : GoodIn wsL_law (va_wsS RL 116 yL_setBooks wsL_setBooks) := goodIn_app (goodIn_of _ (by decide +kernel)) ggL_law_L_setBooks
set_option maxRecDepth 20000 in
theorem ggL_law_X4_setBooks : GoodIn wsL_law wsX4_setBooks := goodIn_r _ [335, 212, 336, 140, 61, 62, 63, 64, 144, 145, 5, 146, 147, 148, 149, 573, 574, 575, 576, 577, 578, 579, 580, 581, 582, 583, 584, 585, 586, 587, 588, 589, 590, 591] (by decide +kernel) (by decide +kernel)
set_option maxRecDepth 20000 in
theorem gL_law_X4_setBooks : GoodIn wsL_law (wsV RL 119 RX4 yX4_setBooks wsX4_setBooks) := goodIn_app (goodIn_of _ (by decide +kernel)) ggL_law_X4_setBooks
set_option maxRecDepth 20000 in
theorem ggL_law_L_setRates : GoodIn wsL_law wsL_setRates := goodIn_ca (goodIn_r _ [339, 78, 340, 341, 342, 2, 343, 20, 89, 90, 91, 92, 93, 94, 87, 88, 344, 19, 345, 346, 45, 46, 47, 567, 568, 569, 570, 571, 572, 598, 599, 600, 601, 602, 603, 604] (by decide +kernel) (by decide +kernel)) (goodIn_sub (fun _ h => List.mem_append_left _ (List.mem_append_right _ h)) (by decide +kernel))
set_option maxRecDepth 20000 in
theorem gL_law_L_setRates : GoodIn wsL_law (va_wsS RL 120 yL_setRates wsL_setRates) := goodIn_app (goodIn_of _ (by decide +kernel)) ggL_law_L_setRates
set_option maxRecDepth 20000 in
theorem ggL_law_X4_setRates : GoodIn wsL_law wsX4_setRates := goodIn_r _ [350, 140, 65, 66, 67, 144, 145, 5, 146, 147, 148, 149, 573, 574, 575, 576, 577, 578, 579, 580, 581, 582, 583, 584, 585, 586, 587, 588, 589, 590, 591] (by decide +kernel) (by decide +kernel)
set_option maxRecDepth 20000 in
theorem gL_law_X4_setRates : GoodIn wsL_law (wsV RL 123 RX4 yX4_setRates wsX4_setRates) := goodIn_app (goodIn_of _ (by decide +kernel)) ggL_law_X4_setRates
set_option maxRecDepth 20000 in
theorem ggL_law_L_netValue : GoodIn wsL_law wsL_netValue := goodIn_ca (goodIn_r _ [353, 78, 354, 355, 356, 2, 357, 20, 89, 90, 91, 92, 93, 94, 87, 88, 189, 19, 190, 191, 192, 193, 194, 195, 41, 45, 196, 197, 198, 199, 200, 201, 202, 203, 204, 205, 206, 42, 567, 568, 569, 570, 571, 572, 598, 599, 600, 601, 602, 603, 604] (by decide +kernel) (by decide +kernel)) (goodIn_sub (fun _ h => List.mem_append_left _ (List.mem_append_right _ h)) (by decide +kernel))
set_option maxRecDepth 20000 in
theorem gL_law_L_netValue : GoodIn wsL_law (va_wsS RL 124 yL_netValue wsL_netValue) := goodIn_app (goodIn_of _ (by decide +kernel)) ggL_law_L_netValue
set_option maxRecDepth 20000 in
theorem ggL_law_X4_netValue : GoodIn wsL_law wsX4_netValue := goodIn_r _ [361, 140, 144, 145, 5, 146, 147, 148, 149, 214, 215, 216, 217, 61, 65, 62, 218, 219, 220, 213, 221, 222, 223, 150, 151, 152, 153, 573, 574, 575, 576, 577, 578, 579, 580, 581, 582, 583, 584, 585, 586, 587, 588, 589, 590, 591] (by decide +kernel) (by decide +kernel)
set_option maxRecDepth 20000 in
theorem gL_law_X4_netValue : GoodIn wsL_law (wsV RL 126 RX4 yX4_netValue wsX4_netValue) := goodIn_app (goodIn_of _ (by decide +kernel)) ggL_law_X4_netValue
set_option maxRecDepth 20000 in
theorem ggL_law_L_translatedEquity : GoodIn wsL_law wsL_translatedEquity := goodIn_ca (goodIn_r _ [364, 78, 365, 366, 367, 2, 368, 20, 89, 90, 91, 92, 93, 94, 87, 88, 369, 19, 370, 371, 43, 47, 196, 197, 198, 199, 200, 201, 202, 567, 568, 569, 570, 571, 572, 598, 599, 600, 601, 602, 603, 604] (by decide +kernel) (by decide +kernel)) (goodIn_sub (fun _ h => List.mem_append_left _ (List.mem_append_right _ h)) (by decide +kernel))
set_option maxRecDepth 20000 in
theorem gL_law_L_translatedEquity : GoodIn wsL_law (va_wsS RL 127 yL_translatedEquity wsL_translatedEquity) := goodIn_app (goodIn_of _ (by decide +kernel)) ggL_law_L_translatedEquity
set_option maxRecDepth 20000 in
theorem ggL_law_X4_translatedEquity : GoodIn wsL_law wsX4_translatedEquity := goodIn_r _ [375, 140, 63, 67, 144, 145, 5, 146, 147, 148, 149, 218, 219, 220, 213, 221, 222, 223, 150, 151, 152, 153, 573, 574, 575, 576, 577, 578, 579, 580, 581, 582, 583, 584, 585, 586, 587, 588, 589, 590, 591] (by decide +kernel) (by decide +kernel)
set_option maxRecDepth 20000 in
theorem gL_law_X4_translatedEquity : GoodIn wsL_law (wsV RL 129 RX4 yX4_translatedEquity wsX4_translatedEquity) := goodIn_app (goodIn_of _ (by decide +kernel)) ggL_law_X4_translatedEquity
set_option maxRecDepth 20000 in
theorem ggL_law_L_translatedResult : GoodIn wsL_law wsL_translatedResult := goodIn_ca (goodIn_r _ [378, 78, 379, 380, 381, 2, 382, 20, 89, 90, 91, 92, 93, 94, 87, 88, 383, 19, 384, 385, 44, 46, 196, 197, 198, 199, 200, 201, 202, 567, 568, 569, 570, 571, 572, 598, 599, 600, 601, 602, 603, 604] (by decide +kernel) (by decide +kernel)) (goodIn_sub (fun _ h => List.mem_append_left _ (List.mem_append_right _ h)) (by decide +kernel))
set_option maxRecDepth 20000 in
theorem gL_law_L_translatedResult : GoodIn wsL_law (va_wsS RL 130 yL_translatedResult wsL_translatedResult) := goodIn_app (goodIn_of _ (by decide +kernel)) ggL_law_L_translatedResult
set_option maxRecDepth 20000 in
theorem ggL_law_X4_translatedResult : GoodIn wsL_law wsX4_translatedResult := goodIn_r _ [389, 140, 64, 66, 144, 145, 5, 146, 147, 148, 149, 218, 219, 220, 213, 221, 222, 223, 150, 151, 152, 153, 573, 574, 575, 576, 577, 578, 579, 580, 581, 582, 583, 584, 585, 586, 587, 588, 589, 590, 591] (by decide +kernel) (by decide +kernel)
set_option maxRecDepth 20000 in
theorem gL_law_X4_translatedResult : GoodIn wsL_law (wsV RL 132 RX4 yX4_translatedResult wsX4_translatedResult) := goodIn_app (goodIn_of _ (by decide +kernel)) ggL_law_X4_translatedResult
set_option maxRecDepth 20000 in
theorem ggL_law_L_reserve : GoodIn wsL_law wsL_reserve := goodIn_ca (goodIn_r _ [392, 78, 393, 394, 395, 2, 396, 20, 89, 90, 91, 92, 93, 94, 87, 88, 189, 19, 190, 191, 192, 193, 194, 195, 41, 45, 196, 197, 198, 199, 200, 201, 202, 203, 204, 205, 206, 42, 369, 370, 371, 43, 47, 383, 384, 385, 44, 46, 567, 568, 569, 570, 571, 572, 598, 599, 600, 601, 602, 603, 604] (by decide +kernel) (by decide +kernel)) (goodIn_sub (fun _ h => List.mem_append_left _ (List.mem_append_right _ h)) (by decide +kernel))
set_option maxRecDepth 20000 in
theorem gL_law_L_reserve : GoodIn wsL_law (va_wsS RL 133 yL_reserve wsL_reserve) := goodIn_app (goodIn_of _ (by decide +kernel)) ggL_law_L_reserve
set_option maxRecDepth 20000 in
theorem ggL_law_X4_reserve : GoodIn wsL_law wsX4_reserve := goodIn_r _ [400, 140, 63, 67, 64, 66, 144, 145, 5, 146, 147, 148, 149, 214, 215, 216, 217, 61, 65, 62, 218, 219, 220, 213, 221, 222, 223, 150, 151, 152, 153, 573, 574, 575, 576, 577, 578, 579, 580, 581, 582, 583, 584, 585, 586, 587, 588, 589, 590, 591] (by decide +kernel) (by decide +kernel)
set_option maxRecDepth 20000 in
theorem gL_law_X4_reserve : GoodIn wsL_law (wsV RL 135 RX4 yX4_reserve wsX4_reserve) := goodIn_app (goodIn_of _ (by decide +kernel)) ggL_law_X4_reserve
set_option maxRecDepth 20000 in
theorem ggL_law_L_claim : GoodIn wsL_law wsL_claim := goodIn_ca (goodIn_r _ [403, 78, 404, 405, 406, 2, 407, 188, 24, 84, 85, 86, 87, 88, 89, 90, 91, 92, 93, 94, 408, 23, 409, 410, 51, 98, 99, 567, 568, 569, 570, 571, 572, 605, 606] (by decide +kernel) (by decide +kernel)) (goodIn_sub (fun _ h => List.mem_append_left _ (List.mem_append_right _ h)) (by decide +kernel))
set_option maxRecDepth 20000 in
theorem gL_law_L_claim : GoodIn wsL_law (va_wsS RL 136 yL_claim wsL_claim) := goodIn_app (goodIn_of _ (by decide +kernel)) ggL_law_L_claim
set_option maxRecDepth 20000 in
theorem ggL_law_X4_claim : GoodIn wsL_law wsX4_claim := goodIn_r _ [414, 140, 212, 58, 141, 142, 5, 143, 144, 145, 146, 147, 148, 149, 150, 151, 152, 153, 573, 574, 575, 576, 577, 578, 579, 580, 581, 582, 583, 584, 585, 586, 587, 588, 589, 590, 591] (by decide +kernel) (by decide +kernel)
set_option maxRecDepth 20000 in
theorem gL_law_X4_claim : GoodIn wsL_law (wsV RL 138 RX4 yX4_claim wsX4_claim) := goodIn_app (goodIn_of _ (by decide +kernel)) ggL_law_X4_claim
set_option maxRecDepth 20000 in
theorem ggL_law_L_admit : GoodIn wsL_law wsL_admit := goodIn_ca (goodIn_r _ [417, 78, 418, 419, 420, 2, 421, 188, 24, 84, 85, 86, 87, 88, 89, 90, 91, 92, 93, 94, 422, 23, 423, 424, 52, 98, 99, 567, 568, 569, 570, 571, 572, 605, 606] (by decide +kernel) (by decide +kernel)) (goodIn_sub (fun _ h => List.mem_append_left _ (List.mem_append_right _ h)) (by decide +kernel))
set_option maxRecDepth 20000 in
theorem gL_law_L_admit : GoodIn wsL_law (va_wsS RL 139 yL_admit wsL_admit) := goodIn_app (goodIn_of _ (by decide +kernel)) ggL_law_L_admit
set_option maxRecDepth 20000 in
theorem ggL_law_X4_admit : GoodIn wsL_law wsX4_admit := goodIn_r _ [428, 140, 212, 59, 141, 142, 5, 143, 144, 145, 146, 147, 148, 149, 150, 151, 152, 153, 573, 574, 575, 576, 577, 578, 579, 580, 581, 582, 583, 584, 585, 586, 587, 588, 589, 590, 591] (by decide +kernel) (by decide +kernel)
set_option maxRecDepth 20000 in
theorem gL_law_X4_admit : GoodIn wsL_law (wsV RL 141 RX4 yX4_admit wsX4_admit) := goodIn_app (goodIn_of _ (by decide +kernel)) ggL_law_X4_admit
set_option maxRecDepth 20000 in
theorem ggL_law_L_difference : GoodIn wsL_law wsL_difference := goodIn_ca (goodIn_r _ [431, 78, 432, 433, 434, 2, 435, 24, 84, 85, 86, 87, 88, 89, 90, 91, 92, 93, 94, 436, 23, 437, 438, 51, 52, 98, 99, 567, 568, 569, 570, 571, 572, 605, 606] (by decide +kernel) (by decide +kernel)) (goodIn_sub (fun _ h => List.mem_append_left _ (List.mem_append_right _ h)) (by decide +kernel))
set_option maxRecDepth 20000 in
theorem gL_law_L_difference : GoodIn wsL_law (va_wsS RL 142 yL_difference wsL_difference) := goodIn_app (goodIn_of _ (by decide +kernel)) ggL_law_L_difference
set_option maxRecDepth 20000 in
theorem ggL_law_X4_difference : GoodIn wsL_law wsX4_difference := goodIn_r _ [442, 140, 58, 59, 141, 142, 5, 143, 144, 145, 146, 147, 148, 149, 150, 151, 152, 153, 573, 574, 575, 576, 577, 578, 579, 580, 581, 582, 583, 584, 585, 586, 587, 588, 589, 590, 591] (by decide +kernel) (by decide +kernel)
set_option maxRecDepth 20000 in
theorem gL_law_X4_difference : GoodIn wsL_law (wsV RL 144 RX4 yX4_difference wsX4_difference) := goodIn_app (goodIn_of _ (by decide +kernel)) ggL_law_X4_difference
set_option maxRecDepth 20000 in
theorem ggL_law_X3_eliminated : GoodIn wsL_law wsX3_eliminated := goodIn_r _ [446, 24, 16, 286, 15, 287, 288, 289, 290, 291, 292, 293, 294, 295, 296, 32, 297, 2, 298, 98, 99, 447, 23, 448, 449, 51, 52, 450, 451, 452, 453, 567, 568, 569, 570, 571, 572, 592, 593, 594, 595, 596, 597, 605, 606] (by decide +kernel) (by decide +kernel)
set_option maxRecDepth 20000 in
theorem gL_law_X3_eliminated : GoodIn wsL_law (wsV RL 145 RX3 yX3_eliminated wsX3_eliminated) := goodIn_app (goodIn_of _ (by decide +kernel)) ggL_law_X3_eliminated
set_option maxRecDepth 20000 in
theorem ggL_law_X4_eliminated : GoodIn wsL_law wsX4_eliminated := goodIn_r _ [457, 140, 458, 459, 460, 5, 461, 59, 58, 303, 304, 305, 306, 57, 573, 574, 575, 576, 577, 578, 579, 580, 581, 582, 583, 584, 585, 586, 587, 588, 589, 590, 591] (by decide +kernel) (by decide +kernel)
set_option maxRecDepth 20000 in
theorem gL_law_X4_eliminated : GoodIn wsL_law (wsV RL 148 RX4 yX4_eliminated wsX4_eliminated) := goodIn_app (goodIn_of _ (by decide +kernel)) ggL_law_X4_eliminated
set_option maxRecDepth 20000 in
theorem ggL_law_X3_assets : GoodIn wsL_law wsX3_assets := goodIn_r _ [465, 16, 20, 24, 286, 15, 287, 288, 289, 290, 291, 292, 293, 294, 295, 296, 32, 297, 2, 298, 98, 99, 466, 193, 19, 194, 195, 41, 45, 196, 197, 198, 199, 200, 201, 202, 447, 23, 448, 449, 51, 52, 450, 451, 452, 453, 567, 568, 569, 570, 571, 572, 592, 593, 594, 595, 596, 597, 598, 599, 600, 601, 602, 603, 604, 605, 606] (by decide +kernel) (by decide +kernel)
set_option maxRecDepth 20000 in
theorem gL_law_X3_assets : GoodIn wsL_law (wsV RL 149 RX3 yX3_assets wsX3_assets) := goodIn_app (goodIn_of _ (by decide +kernel)) ggL_law_X3_assets
set_option maxRecDepth 20000 in
theorem ggL_law_X4_assets : GoodIn wsL_law wsX4_assets := goodIn_r _ [470, 140, 471, 472, 473, 5, 474, 61, 65, 303, 304, 305, 306, 57, 218, 219, 220, 213, 221, 222, 223, 458, 459, 460, 461, 59, 58, 573, 574, 575, 576, 577, 578, 579, 580, 581, 582, 583, 584, 585, 586, 587, 588, 589, 590, 591] (by decide +kernel) (by decide +kernel)
set_option maxRecDepth 20000 in
theorem gL_law_X4_assets : GoodIn wsL_law (wsV RL 152 RX4 yX4_assets wsX4_assets) := goodIn_app (goodIn_of _ (by decide +kernel)) ggL_law_X4_assets
set_option maxRecDepth 20000 in
theorem ggL_law_X3_debts : GoodIn wsL_law wsX3_debts := goodIn_r _ [478, 16, 20, 24, 286, 15, 287, 288, 289, 290, 291, 292, 293, 294, 295, 296, 32, 297, 2, 298, 98, 99, 466, 204, 19, 205, 206, 42, 45, 196, 197, 198, 199, 200, 201, 202, 447, 23, 448, 449, 51, 52, 450, 451, 452, 453, 567, 568, 569, 570, 571, 572, 592, 593, 594, 595, 596, 597, 598, 599, 600, 601, 602, 603, 604, 605, 606] (by decide +kernel) (by decide +kernel)
set_option maxRecDepth 20000 in
theorem gL_law_X3_debts : GoodIn wsL_law (wsV RL 153 RX3 yX3_debts wsX3_debts) := goodIn_app (goodIn_of _ (by decide +kernel)) ggL_law_X3_debts
set_option maxRecDepth 20000 in
theorem ggL_law_X4_debts : GoodIn wsL_law wsX4_debts := goodIn_r _ [482, 140, 483, 484, 485, 5, 486, 62, 65, 303, 304, 305, 306, 57, 218, 219, 220, 213, 221, 222, 223, 458, 459, 460, 461, 59, 58, 573, 574, 575, 576, 577, 578, 579, 580, 581, 582, 583, 584, 585, 586, 587, 588, 589, 590, 591] (by decide +kernel) (by decide +kernel)
set_option maxRecDepth 20000 in
theorem gL_law_X4_debts : GoodIn wsL_law (wsV RL 156 RX4 yX4_debts wsX4_debts) := goodIn_app (goodIn_of _ (by decide +kernel)) ggL_law_X4_debts
set_option maxRecDepth 20000 in
theorem ggL_law_L_minority : GoodIn wsL_law wsL_minority := goodIn_ca (goodIn_r _ [489, 78, 490, 491, 492, 2, 493, 16, 89, 90, 91, 92, 93, 94, 87, 88, 286, 15, 287, 288, 289, 290, 291, 292, 293, 294, 295, 296, 32, 297, 298, 98, 99, 494, 495, 496, 497, 20, 466, 189, 19, 190, 191, 192, 193, 194, 195, 41, 45, 196, 197, 198, 199, 200, 201, 202, 203, 204, 205, 206, 42, 498, 499, 500, 34, 33, 501, 502, 503, 504, 505, 506, 567, 568, 569, 570, 571, 572, 592, 593, 594, 595, 596, 597, 598, 599, 600, 601, 602, 603, 604] (by decide +kernel) (by decide +kernel)) (goodIn_sub (fun _ h => List.mem_append_left _ (List.mem_append_right _ h)) (by decide +kernel))
set_option maxRecDepth 20000 in
theorem gL_law_L_minority : GoodIn wsL_law (va_wsS RL 157 yL_minority wsL_minority) := goodIn_app (goodIn_of _ (by decide +kernel)) ggL_law_L_minority
set_option maxRecDepth 20000 in
theorem ggL_law_X4_minority : GoodIn wsL_law wsX4_minority := goodIn_r _ [510, 140, 144, 145, 5, 146, 147, 148, 149, 150, 151, 152, 153, 158, 159, 160, 161, 70, 71, 162, 163, 164, 165, 57, 69, 166, 167, 168, 169, 170, 171, 172, 173, 174, 175, 176, 511, 512, 513, 514, 303, 304, 305, 306, 214, 215, 216, 217, 61, 65, 62, 218, 219, 220, 213, 221, 222, 223, 573, 574, 575, 576, 577, 578, 579, 580, 581, 582, 583, 584, 585, 586, 587, 588, 589, 590, 591] (by decide +kernel) (by decide +kernel)
set_option maxRecDepth 20000 in
theorem gL_law_X4_minority : GoodIn wsL_law (wsV RL 159 RX4 yX4_minority wsX4_minority) := goodIn_app (goodIn_of _ (by decide +kernel)) ggL_law_X4_minority
set_option maxRecDepth 20000 in
theorem ggL_law_X3_equity : GoodIn wsL_law wsX3_equity := goodIn_r _ [518, 16, 286, 15, 287, 288, 289, 290, 291, 292, 293, 294, 295, 296, 32, 297, 2, 298, 98, 99, 494, 495, 496, 497, 20, 466, 189, 19, 190, 191, 192, 193, 194, 195, 41, 45, 196, 197, 198, 199, 200, 201, 202, 203, 204, 205, 206, 42, 498, 499, 500, 34, 33, 501, 502, 503, 504, 505, 506, 519, 463, 464, 465, 24, 447, 23, 448, 449, 51, 52, 450, 451, 452, 453, 520, 476, 477, 478, 567, 568, 569, 570, 571, 572, 592, 593, 594, 595, 596, 597, 598, 599, 600, 601, 602, 603, 604, 605, 606] (by decide +kernel) (by decide +kernel)
set_option maxRecDepth 20000 in
theorem gL_law_X3_equity : GoodIn wsL_law (wsV RL 160 RX3 yX3_equity wsX3_equity) := goodIn_app (goodIn_of _ (by decide +kernel)) ggL_law_X3_equity
set_option maxRecDepth 20000 in
theorem ggL_law_X4_equity : GoodIn wsL_law wsX4_equity := goodIn_r _ [524, 140, 158, 159, 160, 5, 161, 70, 71, 162, 163, 164, 165, 57, 69, 166, 167, 168, 169, 170, 171, 172, 173, 174, 175, 176, 471, 472, 473, 474, 61, 65, 303, 304, 305, 306, 218, 219, 220, 213, 221, 222, 223, 458, 459, 460, 461, 59, 58, 483, 484, 485, 486, 62, 511, 512, 513, 514, 214, 215, 216, 217, 573, 574, 575, 576, 577, 578, 579, 580, 581, 582, 583, 584, 585, 586, 587, 588, 589, 590, 591] (by decide +kernel) (by decide +kernel)
set_option maxRecDepth 20000 in
theorem gL_law_X4_equity : GoodIn wsL_law (wsV RL 163 RX4 yX4_equity wsX4_equity) := goodIn_app (goodIn_of _ (by decide +kernel)) ggL_law_X4_equity
set_option maxRecDepth 20000 in
theorem ggL_law_X3_result : GoodIn wsL_law wsX3_result := goodIn_r _ [528, 16, 20, 286, 15, 287, 288, 289, 290, 291, 292, 293, 294, 295, 296, 32, 297, 2, 298, 98, 99, 466, 383, 19, 384, 385, 44, 46, 196, 197, 198, 199, 200, 201, 202, 529, 530, 531, 33, 34, 501, 502, 503, 504, 505, 506, 567, 568, 569, 570, 571, 572, 592, 593, 594, 595, 596, 597, 598, 599, 600, 601, 602, 603, 604] (by decide +kernel) (by decide +kernel)
set_option maxRecDepth 20000 in
theorem gL_law_X3_result : GoodIn wsL_law (wsV RL 164 RX3 yX3_result wsX3_result) := goodIn_app (goodIn_of _ (by decide +kernel)) ggL_law_X3_result
set_option maxRecDepth 20000 in
theorem ggL_law_X4_result : GoodIn wsL_law wsX4_result := goodIn_r _ [535, 140, 536, 537, 538, 5, 539, 64, 66, 70, 71, 158, 159, 160, 161, 162, 163, 164, 165, 57, 69, 166, 167, 168, 169, 170, 171, 172, 173, 174, 175, 176, 303, 304, 305, 306, 218, 219, 220, 213, 221, 222, 223, 573, 574, 575, 576, 577, 578, 579, 580, 581, 582, 583, 584, 585, 586, 587, 588, 589, 590, 591] (by decide +kernel) (by decide +kernel)
set_option maxRecDepth 20000 in
theorem gL_law_X4_result : GoodIn wsL_law (wsV RL 167 RX4 yX4_result wsX4_result) := goodIn_app (goodIn_of _ (by decide +kernel)) ggL_law_X4_result
set_option maxRecDepth 20000 in
theorem ggL_law_L_close : GoodIn wsL_law wsL_close := goodIn_ca (goodIn_r _ [542, 79, 543, 544, 545, 2, 546, 134, 135, 28, 27, 20, 547, 526, 527, 528, 16, 286, 15, 287, 288, 289, 290, 291, 292, 293, 294, 295, 296, 32, 297, 298, 98, 99, 466, 383, 19, 384, 385, 44, 46, 196, 197, 198, 199, 200, 201, 202, 529, 530, 531, 33, 34, 501, 502, 503, 504, 505, 506, 548, 549, 550, 43, 567, 568, 569, 570, 571, 572, 592, 593, 594, 595, 596, 597, 598, 599, 600, 601, 602, 603, 604] (by decide +kernel) (by decide +kernel)) (goodIn_sub (fun _ h => List.mem_append_right _ h) (by decide +kernel))
set_option maxRecDepth 20000 in
theorem gL_law_L_close : GoodIn wsL_law (va_wsS RL 168 yL_close wsL_close) := goodIn_app (goodIn_of _ (by decide +kernel)) ggL_law_L_close
set_option maxRecDepth 20000 in
theorem ggL_law_X4_close : GoodIn wsL_law wsX4_close := goodIn_r _ [554, 140, 555, 68, 63, 64, 150, 151, 152, 5, 153, 536, 537, 538, 539, 66, 70, 71, 158, 159, 160, 161, 162, 163, 164, 165, 57, 69, 166, 167, 168, 169, 170, 171, 172, 173, 174, 175, 176, 303, 304, 305, 306, 218, 219, 220, 213, 221, 222, 223, 573, 574, 575, 576, 577, 578, 579, 580, 581, 582, 583, 584, 585, 586, 587, 588, 589, 590, 591] (by decide +kernel) (by decide +kernel)
set_option maxRecDepth 20000 in
theorem gL_law_X4_close : GoodIn wsL_law (wsV RL 171 RX4 yX4_close wsX4_close) := goodIn_app (goodIn_of _ (by decide +kernel)) ggL_law_X4_close
set_option maxRecDepth 20000 in
theorem ggL_law_L_resultOf : GoodIn wsL_law wsL_resultOf := goodIn_ca (goodIn_r _ [558, 78, 559, 560, 561, 2, 562, 87, 88, 28, 27, 92, 93, 94, 567, 568, 569, 570, 571, 572] (by decide +kernel) (by decide +kernel)) (goodIn_sub (fun _ h => List.mem_append_left _ (List.mem_append_right _ h)) (by decide +kernel))
set_option maxRecDepth 20000 in
theorem gL_law_L_resultOf : GoodIn wsL_law (va_wsS RL 172 yL_resultOf wsL_resultOf) := goodIn_app (goodIn_of _ (by decide +kernel)) ggL_law_L_resultOf
set_option maxRecDepth 20000 in
theorem ggL_law_X4_resultOf : GoodIn wsL_law wsX4_resultOf := goodIn_r _ [566, 140, 555, 68, 147, 148, 5, 149, 150, 151, 152, 153, 573, 574, 575, 576, 577, 578, 579, 580, 581, 582, 583, 584, 585, 586, 587, 588, 589, 590, 591] (by decide +kernel) (by decide +kernel)
set_option maxRecDepth 20000 in
theorem gL_law_X4_resultOf : GoodIn wsL_law (wsV RL 174 RX4 yX4_resultOf wsX4_resultOf) := goodIn_app (goodIn_of _ (by decide +kernel)) ggL_law_X4_resultOf
