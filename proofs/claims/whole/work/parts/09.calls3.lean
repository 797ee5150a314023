set_option maxRecDepth 20000 in
theorem gL_law_X4_tokens : GoodIn wsL_law (wsV RL 103 RX4 yX4_tokens wsX4_tokens) := goodIn_app (goodIn_of _ (by decide +kernel)) ggL_law_X4_tokens
set_option maxRecDepth 20000 in
theorem ggL_law_L_explore : GoodIn wsL_law wsL_explore := goodIn_ca (goodIn_r _ [184, 185, 186, 187, 188, 2, 189, 190, 191, 22, 97, 98, 99, 100, 26, 192, 193, 194, 21, 195, 44, 45, 41, 40, 39, 196, 197, 198, 199, 200, 42, 201, 202, 203, 204, 205, 206, 207, 208, 209, 210, 15, 211, 32, 212, 213, 214, 215, 216, 217, 218, 219, 220, 221, 222, 33, 223, 224, 225, 226, 227, 228, 229, 230, 231, 232, 233, 234, 235, 236, 237, 238, 239, 240, 241, 242, 529, 530, 531, 532, 560, 561, 562, 563, 564, 565, 566, 567, 568, 569, 570, 571, 572, 573, 574, 575, 576, 577, 555, 556, 557, 558, 559] (by decide +kernel) (by decide +kernel)) (goodIn_sub (fun _ h => List.mem_append_right _ h) (by decide +kernel))
set_option maxRecDepth 20000 in
theorem gL_law_L_explore : GoodIn wsL_law (va_wsS RL 104 yL_explore wsL_explore) := goodIn_app (goodIn_of _ (by decide +kernel)) ggL_law_L_explore
set_option maxRecDepth 20000 in
theorem ggL_law_X4_explore : GoodIn wsL_law wsX4_explore := goodIn_r _ [246, 111, 67, 247, 248, 110, 79, 63, 72, 71, 136, 69, 112, 113, 114, 5, 115, 73, 249, 250, 251, 252, 68, 70, 253, 254, 255, 256, 257, 258, 259, 260, 65, 261, 262, 263, 264, 265, 66, 266, 267, 268, 269, 533, 534, 535, 536, 537, 538, 539, 540, 541, 542, 543, 544, 545, 546, 547, 548, 549, 550, 551, 552, 553, 554] (by decide +kernel) (by decide +kernel)
set_option maxRecDepth 20000 in
theorem gL_law_X4_explore : GoodIn wsL_law (wsV RL 106 RX4 yX4_explore wsX4_explore) := goodIn_app (goodIn_of _ (by decide +kernel)) ggL_law_X4_explore
set_option maxRecDepth 20000 in
theorem ggL_law_L_count : GoodIn wsL_law wsL_count := goodIn_ca (goodIn_ca (goodIn_r _ [272, 85, 140, 273, 274, 275, 2, 276, 22, 277, 278, 279, 280, 90, 91, 281, 282, 283, 284, 149, 150, 145, 146, 147, 148, 16, 285, 286, 287, 288, 529, 530, 531, 532, 560, 561, 562, 563, 564, 565, 566, 567, 568, 555, 556, 557, 558, 559] (by decide +kernel) (by decide +kernel)) (goodIn_sub (fun _ h => List.mem_append_left _ (List.mem_append_left _ (List.mem_append_left _ (List.mem_append_right _ h)))) (by decide +kernel))) (goodIn_sub (fun _ h => List.mem_append_left _ (List.mem_append_right _ h)) (by decide +kernel))
set_option maxRecDepth 20000 in
theorem gL_law_L_count : GoodIn wsL_law (va_wsS RL 107 yL_count wsL_count) := goodIn_app (goodIn_of _ (by decide +kernel)) ggL_law_L_count
set_option maxRecDepth 20000 in
theorem ggL_law_X4_count : GoodIn wsL_law wsX4_count := goodIn_r _ [292, 67, 111, 68, 163, 164, 165, 5, 166, 110, 293, 294, 295, 265, 533, 534, 535, 536, 537, 538, 539, 540, 541, 542, 543, 544, 545, 546, 547, 548, 549, 550, 551, 552, 553, 554] (by decide +kernel) (by decide +kernel)
set_option maxRecDepth 20000 in
theorem gL_law_X4_count : GoodIn wsL_law (wsV RL 110 RX4 yX4_count wsX4_count) := goodIn_app (goodIn_of _ (by decide +kernel)) ggL_law_X4_count
set_option maxRecDepth 20000 in
theorem ggL_law_L_node : GoodIn wsL_law wsL_node := goodIn_ca (goodIn_ca (goodIn_r _ [298, 85, 140, 299, 300, 301, 2, 302, 22, 277, 278, 279, 280, 90, 91, 281, 282, 283, 284, 149, 150, 529, 530, 531, 532, 560, 561, 562, 563, 564, 565, 566, 567, 568] (by decide +kernel) (by decide +kernel)) (goodIn_sub (fun _ h => List.mem_append_left _ (List.mem_append_left _ (List.mem_append_left _ (List.mem_append_right _ h)))) (by decide +kernel))) (goodIn_sub (fun _ h => List.mem_append_left _ (List.mem_append_right _ h)) (by decide +kernel))
set_option maxRecDepth 20000 in
theorem gL_law_L_node : GoodIn wsL_law (va_wsS RL 111 yL_node wsL_node) := goodIn_app (goodIn_of _ (by decide +kernel)) ggL_law_L_node
set_option maxRecDepth 20000 in
theorem ggL_law_X4_node : GoodIn wsL_law wsX4_node := goodIn_r _ [306, 67, 111, 72, 69, 70, 533, 534, 535, 536, 537, 538, 539, 540, 541, 542, 543, 544, 545, 546, 547, 548, 549, 550, 551, 552, 553, 554] (by decide +kernel) (by decide +kernel)
set_option maxRecDepth 20000 in
theorem gL_law_X4_node : GoodIn wsL_law (wsV RL 113 RX4 yX4_node wsX4_node) := goodIn_app (goodIn_of _ (by decide +kernel)) ggL_law_X4_node
set_option maxRecDepth 20000 in
theorem ggL_law_L_bound : GoodIn wsL_law wsL_bound := goodIn_ca (goodIn_ca (goodIn_r _ [309, 85, 140, 310, 311, 312, 2, 313, 22, 277, 278, 279, 280, 90, 91, 145, 146, 147, 148, 149, 150, 16, 314, 315, 316, 21, 317, 196, 39, 318, 319, 320, 321, 285, 286, 287, 288, 529, 530, 531, 532, 560, 561, 562, 563, 564, 565, 566, 567, 568, 555, 556, 557, 558, 559] (by decide +kernel) (by decide +kernel)) (goodIn_sub (fun _ h => List.mem_append_left _ (List.mem_append_left _ (List.mem_append_left _ (List.mem_append_right _ h)))) (by decide +kernel))) (goodIn_sub (fun _ h => List.mem_append_left _ (List.mem_append_right _ h)) (by decide +kernel))
set_option maxRecDepth 20000 in
theorem gL_law_L_bound : GoodIn wsL_law (va_wsS RL 114 yL_bound wsL_bound) := goodIn_app (goodIn_of _ (by decide +kernel)) ggL_law_L_bound
set_option maxRecDepth 20000 in
theorem ggL_law_X4_bound : GoodIn wsL_law wsX4_bound := goodIn_r _ [325, 67, 111, 163, 164, 165, 5, 166, 110, 326, 327, 328, 329, 68, 293, 294, 295, 265, 533, 534, 535, 536, 537, 538, 539, 540, 541, 542, 543, 544, 545, 546, 547, 548, 549, 550, 551, 552, 553, 554] (by decide +kernel) (by decide +kernel)
set_option maxRecDepth 20000 in
theorem gL_law_X4_bound : GoodIn wsL_law (wsV RL 116 RX4 yX4_bound wsX4_bound) := goodIn_app (goodIn_of _ (by decide +kernel)) ggL_law_X4_bound
set_option maxRecDepth 20000 in
theorem ggL_law_L_want : GoodIn wsL_law wsL_want := goodIn_ca (goodIn_ca (goodIn_r _ [332, 140, 84, 333, 334, 335, 2, 336, 18, 145, 146, 147, 148, 149, 150, 16, 92, 93, 94, 95, 96, 529, 530, 531, 532, 555, 556, 557, 558, 559] (by decide +kernel) (by decide +kernel)) (goodIn_sub (fun _ h => List.mem_append_left _ (List.mem_append_right _ h)) (by decide +kernel))) (goodIn_sub (fun _ h => List.mem_append_left _ (List.mem_append_left _ (List.mem_append_right _ h))) (by decide +kernel))
set_option maxRecDepth 20000 in
theorem gL_law_L_want : GoodIn wsL_law (va_wsS RL 117 yL_want wsL_want) := goodIn_app (goodIn_of _ (by decide +kernel)) ggL_law_L_want
set_option maxRecDepth 20000 in
theorem ggL_law_X4_want : GoodIn wsL_law wsX4_want := goodIn_r _ [340, 111, 64, 163, 164, 165, 5, 166, 110, 533, 534, 535, 536, 537, 538, 539, 540, 541, 542, 543, 544, 545, 546, 547, 548, 549, 550, 551, 552, 553, 554] (by decide +kernel) (by decide +kernel)
set_option maxRecDepth 20000 in
theorem gL_law_X4_want : GoodIn wsL_law (wsV RL 119 RX4 yX4_want wsX4_want) := goodIn_app (goodIn_of _ (by decide +kernel)) ggL_law_X4_want
set_option maxRecDepth 20000 in
theorem ggL_law_L_covered : GoodIn wsL_law wsL_covered := goodIn_ca (goodIn_r _ [343, 85, 344, 345, 346, 2, 347, 22, 18, 277, 278, 279, 280, 90, 91, 348, 349, 350, 21, 351, 196, 39, 212, 213, 529, 530, 531, 532, 560, 561, 562, 563, 564, 565, 566, 567, 568] (by decide +kernel) (by decide +kernel)) (goodIn_sub (fun _ h => List.mem_append_left _ (List.mem_append_left _ (List.mem_append_left _ (List.mem_append_right _ h)))) (by decide +kernel))
set_option maxRecDepth 20000 in
theorem gL_law_L_covered : GoodIn wsL_law (va_wsS RL 120 yL_covered wsL_covered) := goodIn_app (goodIn_of _ (by decide +kernel)) ggL_law_L_covered
set_option maxRecDepth 20000 in
theorem ggL_law_X4_covered : GoodIn wsL_law wsX4_covered := goodIn_r _ [355, 67, 111, 110, 68, 64, 533, 534, 535, 536, 537, 538, 539, 540, 541, 542, 543, 544, 545, 546, 547, 548, 549, 550, 551, 552, 553, 554] (by decide +kernel) (by decide +kernel)
set_option maxRecDepth 20000 in
theorem gL_law_X4_covered : GoodIn wsL_law (wsV RL 122 RX4 yX4_covered wsX4_covered) := goodIn_app (goodIn_of _ (by decide +kernel)) ggL_law_X4_covered
set_option maxRecDepth 20000 in
theorem ggL_law_L_possible : GoodIn wsL_law wsL_possible := goodIn_ca (goodIn_ca (goodIn_r _ [358, 85, 140, 359, 360, 361, 2, 362, 22, 277, 278, 279, 280, 90, 91, 151, 152, 153, 154, 149, 150, 16, 363, 364, 365, 21, 366, 45, 367, 349, 350, 351, 196, 39, 212, 213, 529, 530, 531, 532, 560, 561, 562, 563, 564, 565, 566, 567, 568, 555, 556, 557, 558, 559] (by decide +kernel) (by decide +kernel)) (goodIn_sub (fun _ h => List.mem_append_left _ (List.mem_append_left _ (List.mem_append_left _ (List.mem_append_right _ h)))) (by decide +kernel))) (goodIn_sub (fun _ h => List.mem_append_left _ (List.mem_append_right _ h)) (by decide +kernel))
set_option maxRecDepth 20000 in
theorem gL_law_L_possible : GoodIn wsL_law (va_wsS RL 123 yL_possible wsL_possible) := goodIn_app (goodIn_of _ (by decide +kernel)) ggL_law_L_possible
set_option maxRecDepth 20000 in
theorem ggL_law_X4_possible : GoodIn wsL_law wsX4_possible := goodIn_r _ [371, 67, 111, 167, 168, 169, 5, 170, 136, 257, 258, 259, 260, 110, 68, 65, 533, 534, 535, 536, 537, 538, 539, 540, 541, 542, 543, 544, 545, 546, 547, 548, 549, 550, 551, 552, 553, 554] (by decide +kernel) (by decide +kernel)
set_option maxRecDepth 20000 in
theorem gL_law_X4_possible : GoodIn wsL_law (wsV RL 125 RX4 yX4_possible wsX4_possible) := goodIn_app (goodIn_of _ (by decide +kernel)) ggL_law_X4_possible
set_option maxRecDepth 20000 in
theorem ggL_law_L_growth : GoodIn wsL_law wsL_growth := goodIn_ca (goodIn_ca (goodIn_r _ [374, 85, 84, 375, 376, 377, 2, 378, 95, 96, 22, 277, 278, 279, 280, 90, 91, 379, 380, 381, 21, 382, 201, 383, 384, 385, 386, 42, 40, 41, 529, 530, 531, 532, 560, 561, 562, 563, 564, 565, 566, 567, 568] (by decide +kernel) (by decide +kernel)) (goodIn_sub (fun _ h => List.mem_append_left _ (List.mem_append_left _ (List.mem_append_right _ h))) (by decide +kernel))) (goodIn_sub (fun _ h => List.mem_append_left _ (List.mem_append_left _ (List.mem_append_left _ (List.mem_append_right _ h)))) (by decide +kernel))
set_option maxRecDepth 20000 in
theorem gL_law_L_growth : GoodIn wsL_law (va_wsS RL 126 yL_growth wsL_growth) := goodIn_app (goodIn_of _ (by decide +kernel)) ggL_law_L_growth
set_option maxRecDepth 20000 in
theorem ggL_law_X4_growth : GoodIn wsL_law wsX4_growth := goodIn_r _ [390, 67, 111, 247, 248, 69, 70, 391, 392, 393, 5, 394, 533, 534, 535, 536, 537, 538, 539, 540, 541, 542, 543, 544, 545, 546, 547, 548, 549, 550, 551, 552, 553, 554] (by decide +kernel) (by decide +kernel)
set_option maxRecDepth 20000 in
theorem gL_law_X4_growth : GoodIn wsL_law (wsV RL 128 RX4 yX4_growth wsX4_growth) := goodIn_app (goodIn_of _ (by decide +kernel)) ggL_law_X4_growth
set_option maxRecDepth 20000 in
theorem ggL_law_L_graph : GoodIn wsL_law wsL_graph := goodIn_ca (goodIn_ca (goodIn_r _ [397, 85, 185, 398, 399, 400, 2, 401, 90, 91, 190, 191, 22, 26, 277, 278, 279, 280, 379, 380, 381, 21, 382, 201, 402, 403, 404, 25, 405, 57, 58, 406, 202, 203, 204, 205, 206, 207, 407, 408, 409, 410, 51, 53, 54, 55, 411, 412, 413, 414, 52, 415, 209, 210, 15, 211, 32, 212, 213, 416, 219, 220, 221, 222, 33, 417, 418, 419, 420, 227, 228, 421, 422, 423, 424, 56, 425, 426, 427, 428, 429, 430, 431, 432, 529, 530, 531, 532, 569, 570, 571, 572, 573, 574, 575, 576, 577, 560, 561, 562, 563, 564, 565, 566, 567, 568, 555, 556, 557, 558, 559] (by decide +kernel) (by decide +kernel)) (goodIn_sub (fun _ h => List.mem_append_left _ (List.mem_append_left _ (List.mem_append_left _ (List.mem_append_right _ h)))) (by decide +kernel))) (goodIn_sub (fun _ h => List.mem_append_right _ h) (by decide +kernel))
set_option maxRecDepth 20000 in
theorem gL_law_L_graph : GoodIn wsL_law (va_wsS RL 129 yL_graph wsL_graph) := goodIn_app (goodIn_of _ (by decide +kernel)) ggL_law_L_graph
set_option maxRecDepth 20000 in
theorem ggL_law_X4_graph : GoodIn wsL_law wsX4_graph := goodIn_r _ [436, 67, 111, 73, 110, 79, 63, 136, 75, 74, 65, 66, 437, 438, 439, 5, 440, 265, 326, 327, 328, 329, 68, 441, 442, 443, 444, 76, 77, 445, 446, 447, 448, 449, 450, 451, 452, 533, 534, 535, 536, 537, 538, 539, 540, 541, 542, 543, 544, 545, 546, 547, 548, 549, 550, 551, 552, 553, 554] (by decide +kernel) (by decide +kernel)
set_option maxRecDepth 20000 in
theorem gL_law_X4_graph : GoodIn wsL_law (wsV RL 131 RX4 yX4_graph wsX4_graph) := goodIn_app (goodIn_of _ (by decide +kernel)) ggL_law_X4_graph
set_option maxRecDepth 20000 in
theorem ggL_law_L_reached : GoodIn wsL_law wsL_reached := goodIn_ca (goodIn_r _ [455, 85, 456, 457, 458, 2, 459, 26, 18, 460, 461, 462, 463, 90, 91, 464, 418, 419, 25, 420, 406, 51, 227, 228, 529, 530, 531, 532, 569, 570, 571, 572, 573, 574, 575, 576, 577] (by decide +kernel) (by decide +kernel)) (goodIn_sub (fun _ h => List.mem_append_left _ (List.mem_append_left _ (List.mem_append_left _ (List.mem_append_right _ h)))) (by decide +kernel))
set_option maxRecDepth 20000 in
theorem gL_law_L_reached : GoodIn wsL_law (va_wsS RL 132 yL_reached wsL_reached) := goodIn_app (goodIn_of _ (by decide +kernel)) ggL_law_L_reached
set_option maxRecDepth 20000 in
theorem ggL_law_X4_reached : GoodIn wsL_law wsX4_reached := goodIn_r _ [468, 73, 111, 110, 79, 64, 449, 450, 451, 5, 452, 74, 533, 534, 535, 536, 537, 538, 539, 540, 541, 542, 543, 544, 545, 546, 547, 548, 549, 550, 551, 552, 553, 554] (by decide +kernel) (by decide +kernel)
set_option maxRecDepth 20000 in
theorem gL_law_X4_reached : GoodIn wsL_law (wsV RL 134 RX4 yX4_reached wsX4_reached) := goodIn_app (goodIn_of _ (by decide +kernel)) ggL_law_X4_reached
set_option maxRecDepth 20000 in
theorem ggL_law_L_distance : GoodIn wsL_law wsL_distance := goodIn_ca (goodIn_ca (goodIn_r _ [471, 85, 140, 472, 473, 474, 2, 475, 26, 460, 461, 462, 463, 90, 91, 476, 477, 478, 479, 149, 150, 529, 530, 531, 532, 569, 570, 571, 572, 573, 574, 575, 576, 577] (by decide +kernel) (by decide +kernel)) (goodIn_sub (fun _ h => List.mem_append_left _ (List.mem_append_left _ (List.mem_append_left _ (List.mem_append_right _ h)))) (by decide +kernel))) (goodIn_sub (fun _ h => List.mem_append_left _ (List.mem_append_right _ h)) (by decide +kernel))
set_option maxRecDepth 20000 in
theorem gL_law_L_distance : GoodIn wsL_law (va_wsS RL 135 yL_distance wsL_distance) := goodIn_app (goodIn_of _ (by decide +kernel)) ggL_law_L_distance
set_option maxRecDepth 20000 in
theorem ggL_law_X4_distance : GoodIn wsL_law wsX4_distance := goodIn_r _ [483, 76, 484, 485, 486, 5, 487, 73, 111, 533, 534, 535, 536, 537, 538, 539, 540, 541, 542, 543, 544, 545, 546, 547, 548, 549, 550, 551, 552, 553, 554] (by decide +kernel) (by decide +kernel)
set_option maxRecDepth 20000 in
theorem gL_law_X4_distance : GoodIn wsL_law (wsV RL 137 RX4 yX4_distance wsX4_distance) := goodIn_app (goodIn_of _ (by decide +kernel)) ggL_law_X4_distance
set_option maxRecDepth 20000 in
theorem ggL_law_L_found : GoodIn wsL_law wsL_found := goodIn_ca (goodIn_ca (goodIn_r _ [490, 85, 140, 491, 492, 493, 2, 494, 26, 460, 461, 462, 463, 90, 91, 476, 477, 478, 479, 149, 150, 529, 530, 531, 532, 569, 570, 571, 572, 573, 574, 575, 576, 577] (by decide +kernel) (by decide +kernel)) (goodIn_sub (fun _ h => List.mem_append_left _ (List.mem_append_left _ (List.mem_append_left _ (List.mem_append_right _ h)))) (by decide +kernel))) (goodIn_sub (fun _ h => List.mem_append_left _ (List.mem_append_right _ h)) (by decide +kernel))
set_option maxRecDepth 20000 in
theorem gL_law_L_found : GoodIn wsL_law (va_wsS RL 138 yL_found wsL_found) := goodIn_app (goodIn_of _ (by decide +kernel)) ggL_law_L_found
set_option maxRecDepth 20000 in
theorem ggL_law_X4_found : GoodIn wsL_law wsX4_found := goodIn_r _ [498, 76, 77, 484, 485, 486, 5, 487, 73, 111, 533, 534, 535, 536, 537, 538, 539, 540, 541, 542, 543, 544, 545, 546, 547, 548, 549, 550, 551, 552, 553, 554] (by decide +kernel) (by decide +kernel)
set_option maxRecDepth 20000 in
theorem gL_law_X4_found : GoodIn wsL_law (wsV RL 141 RX4 yX4_found wsX4_found) := goodIn_app (goodIn_of _ (by decide +kernel)) ggL_law_X4_found
set_option maxRecDepth 20000 in
theorem ggL_law_L_stops : GoodIn wsL_law wsL_stops := goodIn_ca (goodIn_r _ [501, 85, 502, 503, 504, 2, 505, 26, 460, 461, 462, 463, 90, 91, 506, 507, 508, 25, 509, 406, 425, 426, 427, 428, 58, 52, 529, 530, 531, 532, 569, 570, 571, 572, 573, 574, 575, 576, 577, 555, 556, 557, 558, 559] (by decide +kernel) (by decide +kernel)) (goodIn_sub (fun _ h => List.mem_append_left _ (List.mem_append_left _ (List.mem_append_left _ (List.mem_append_right _ h)))) (by decide +kernel))
set_option maxRecDepth 20000 in
theorem gL_law_L_stops : GoodIn wsL_law (va_wsS RL 142 yL_stops wsL_stops) := goodIn_app (goodIn_of _ (by decide +kernel)) ggL_law_L_stops
set_option maxRecDepth 20000 in
theorem ggL_law_X4_stops : GoodIn wsL_law wsX4_stops := goodIn_r _ [513, 73, 111, 136, 75, 533, 534, 535, 536, 537, 538, 539, 540, 541, 542, 543, 544, 545, 546, 547, 548, 549, 550, 551, 552, 553, 554] (by decide +kernel) (by decide +kernel)
set_option maxRecDepth 20000 in
theorem gL_law_X4_stops : GoodIn wsL_law (wsV RL 144 RX4 yX4_stops wsX4_stops) := goodIn_app (goodIn_of _ (by decide +kernel)) ggL_law_X4_stops
set_option maxRecDepth 20000 in
theorem ggL_law_L_live : GoodIn wsL_law wsL_live := goodIn_ca (goodIn_ca (goodIn_r _ [516, 85, 140, 517, 518, 519, 2, 520, 26, 460, 461, 462, 463, 90, 91, 151, 152, 153, 154, 149, 150, 16, 521, 522, 523, 25, 524, 406, 56, 529, 530, 531, 532, 569, 570, 571, 572, 573, 574, 575, 576, 577, 555, 556, 557, 558, 559] (by decide +kernel) (by decide +kernel)) (goodIn_sub (fun _ h => List.mem_append_left _ (List.mem_append_left _ (List.mem_append_left _ (List.mem_append_right _ h)))) (by decide +kernel))) (goodIn_sub (fun _ h => List.mem_append_left _ (List.mem_append_right _ h)) (by decide +kernel))
set_option maxRecDepth 20000 in
theorem gL_law_L_live : GoodIn wsL_law (va_wsS RL 145 yL_live wsL_live) := goodIn_app (goodIn_of _ (by decide +kernel)) ggL_law_L_live
set_option maxRecDepth 20000 in
theorem ggL_law_X4_live : GoodIn wsL_law wsX4_live := goodIn_r _ [528, 73, 111, 78, 75, 136, 167, 168, 169, 5, 170, 533, 534, 535, 536, 537, 538, 539, 540, 541, 542, 543, 544, 545, 546, 547, 548, 549, 550, 551, 552, 553, 554] (by decide +kernel) (by decide +kernel)
set_option maxRecDepth 20000 in
theorem gL_law_X4_live : GoodIn wsL_law (wsV RL 147 RX4 yX4_live wsX4_live) := goodIn_app (goodIn_of _ (by decide +kernel)) ggL_law_X4_live
abbrev vwCl : List vw_C := [(RX0, TX0, 9), (RX1, TX1, 5), (RX2, TX2, 9), (RX3, TX3, 4), (RX4, TX4, 22)]
