set_option maxRecDepth 20000 in
theorem ggX3_want_X3_needPlace : GoodIn wsX3_want wsX3_needPlace := goodIn_ca (goodIn_r _ [6, 7, 8, 9, 15, 16, 17, 18, 19, 20, 21, 22, 23] (by decide +kernel) (by decide +kernel)) (goodIn_sub (fun _ h => List.mem_cons_of_mem _ (List.mem_append_left _ (List.mem_append_right _ h))) (by decide +kernel))
set_option maxRecDepth 20000 in
theorem gX3_want_X3_needPlace : GoodIn wsX3_want (wsV RX3 67 RX3 yX3_needPlace wsX3_needPlace) := goodIn_app (goodIn_of _ (by decide +kernel)) ggX3_want_X3_needPlace
set_option maxRecDepth 20000 in
theorem ggX3_want_X3_needRange : GoodIn wsX3_want wsX3_needRange := goodIn_ca (goodIn_r _ [12, 13, 14] (by decide +kernel) (by decide +kernel)) (goodIn_sub (fun _ h => List.mem_cons_of_mem _ (List.mem_append_right _ h)) (by decide +kernel))
set_option maxRecDepth 20000 in
theorem gX3_want_X3_needRange : GoodIn wsX3_want (va_wsS RX3 36 yX3_needRange wsX3_needRange) := goodIn_app (goodIn_of _ (by decide +kernel)) ggX3_want_X3_needRange
set_option maxRecDepth 20000 in
theorem ggX3_covered_X3_needTree : GoodIn wsX3_covered wsX3_needTree := goodIn_ca (goodIn_r _ [7, 8, 9, 1, 19, 20, 21, 22, 23, 24, 25, 26, 27, 28, 29, 30, 31] (by decide +kernel) (by decide +kernel)) (goodIn_sub (fun _ h => List.mem_cons_of_mem _ (List.mem_append_right _ h)) (by decide +kernel))
set_option maxRecDepth 20000 in
theorem gX3_covered_X3_needTree : GoodIn wsX3_covered (wsV RX3 93 RX3 yX3_needTree wsX3_needTree) := goodIn_app (goodIn_of _ (by decide +kernel)) ggX3_covered_X3_needTree
set_option maxRecDepth 20000 in
theorem ggX3_covered_X2_hasNodeCovering : GoodIn wsX3_covered wsX2_hasNodeCovering := goodIn_r _ [14, 15, 16, 17, 6, 18, 23, 24, 25, 26, 27, 28, 29, 30, 31] (by decide +kernel) (by decide +kernel)
set_option maxRecDepth 20000 in
theorem gX3_covered_X2_hasNodeCovering : GoodIn wsX3_covered (wsV RX3 119 RX2 yX2_hasNodeCovering wsX2_hasNodeCovering) := goodIn_app (goodIn_of _ (by decide +kernel)) ggX3_covered_X2_hasNodeCovering
set_option maxRecDepth 20000 in
theorem ggX3_possible_X3_needTree : GoodIn wsX3_possible wsX3_needTree := goodIn_ca (goodIn_r _ [6, 7, 8, 1, 30, 31, 32, 33, 34, 35, 36, 37, 38, 39, 40, 41, 42] (by decide +kernel) (by decide +kernel)) (goodIn_sub (fun _ h => List.mem_cons_of_mem _ (List.mem_append_left _ (List.mem_append_right _ h))) (by decide +kernel))
set_option maxRecDepth 20000 in
theorem gX3_possible_X3_needTree : GoodIn wsX3_possible (wsV RX3 93 RX3 yX3_needTree wsX3_needTree) := goodIn_app (goodIn_of _ (by decide +kernel)) ggX3_possible_X3_needTree
set_option maxRecDepth 20000 in
theorem ggX3_possible_X3_needTransition : GoodIn wsX3_possible wsX3_needTransition := goodIn_ca (goodIn_r _ [12, 13, 14, 15, 30, 31, 32, 33, 43, 44, 45, 46, 47] (by decide +kernel) (by decide +kernel)) (goodIn_sub (fun _ h => List.mem_cons_of_mem _ (List.mem_append_right _ h)) (by decide +kernel))
set_option maxRecDepth 20000 in
theorem gX3_possible_X3_needTransition : GoodIn wsX3_possible (wsV RX3 71 RX3 yX3_needTransition wsX3_needTransition) := goodIn_app (goodIn_of _ (by decide +kernel)) ggX3_possible_X3_needTransition
set_option maxRecDepth 20000 in
theorem ggX3_possible_X2_hasNodeEnabling : GoodIn wsX3_possible wsX2_hasNodeEnabling := goodIn_r _ [20, 21, 22, 23, 24, 19, 25, 26, 27, 28, 5, 29, 34, 35, 36, 37, 38, 39, 40, 41, 42, 43, 44, 45, 46, 47] (by decide +kernel) (by decide +kernel)
set_option maxRecDepth 20000 in
theorem gX3_possible_X2_hasNodeEnabling : GoodIn wsX3_possible (wsV RX3 123 RX2 yX2_hasNodeEnabling wsX2_hasNodeEnabling) := goodIn_app (goodIn_of _ (by decide +kernel)) ggX3_possible_X2_hasNodeEnabling
set_option maxRecDepth 20000 in
theorem ggX3_growth_X3_needTree : GoodIn wsX3_growth wsX3_needTree := goodIn_ca (goodIn_r _ [8, 9, 10, 3, 24, 25, 26, 27, 28, 29, 30, 31, 32, 33, 34, 35, 36] (by decide +kernel) (by decide +kernel)) (goodIn_sub (fun _ h => List.mem_cons_of_mem _ (List.mem_append_right _ h)) (by decide +kernel))
set_option maxRecDepth 20000 in
theorem gX3_growth_X3_needTree : GoodIn wsX3_growth (wsV RX3 93 RX3 yX3_needTree wsX3_needTree) := goodIn_app (goodIn_of _ (by decide +kernel)) ggX3_growth_X3_needTree
set_option maxRecDepth 20000 in
theorem ggX3_growth_X2_hasEndless : GoodIn wsX3_growth wsX2_hasEndless := goodIn_r _ [15, 16, 28, 29, 30, 31, 32, 33, 34, 35, 36] (by decide +kernel) (by decide +kernel)
set_option maxRecDepth 20000 in
theorem gX3_growth_X2_hasEndless : GoodIn wsX3_growth (wsV RX3 132 RX2 yX2_hasEndless wsX2_hasEndless) := goodIn_app (goodIn_of _ (by decide +kernel)) ggX3_growth_X2_hasEndless
set_option maxRecDepth 20000 in
theorem ggX3_growth_X2_stepToFirstEndless : GoodIn wsX3_growth wsX2_stepToFirstEndless := goodIn_r _ [20, 16, 21, 22, 23, 28, 29, 30, 31, 32, 33, 34, 35, 36] (by decide +kernel) (by decide +kernel)
set_option maxRecDepth 20000 in
theorem gX3_growth_X2_stepToFirstEndless : GoodIn wsX3_growth (wsV RX3 138 RX2 yX2_stepToFirstEndless wsX2_stepToFirstEndless) := goodIn_app (goodIn_of _ (by decide +kernel)) ggX3_growth_X2_stepToFirstEndless
set_option maxRecDepth 20000 in
theorem ggX3_graph_X3_needTree : GoodIn wsX3_graph wsX3_needTree := goodIn_ca (goodIn_r _ [11, 1, 2, 5, 78, 79, 80, 81, 91, 92, 93, 94, 95, 96, 97, 98, 99] (by decide +kernel) (by decide +kernel)) (goodIn_sub (fun _ h => List.mem_cons_of_mem _ (List.mem_append_left _ (List.mem_append_right _ h))) (by decide +kernel))
set_option maxRecDepth 20000 in
theorem gX3_graph_X3_needTree : GoodIn wsX3_graph (wsV RX3 93 RX3 yX3_needTree wsX3_needTree) := goodIn_app (goodIn_of _ (by decide +kernel)) ggX3_graph_X3_needTree
set_option maxRecDepth 20000 in
theorem ggX3_graph_X2_hasEndless : GoodIn wsX3_graph wsX2_hasEndless := goodIn_r _ [16, 17, 91, 92, 93, 94, 95, 96, 97, 98, 99] (by decide +kernel) (by decide +kernel)
set_option maxRecDepth 20000 in
theorem gX3_graph_X2_hasEndless : GoodIn wsX3_graph (wsV RX3 132 RX2 yX2_hasEndless wsX2_hasEndless) := goodIn_app (goodIn_of _ (by decide +kernel)) ggX3_graph_X2_hasEndless
set_option maxRecDepth 20000 in
theorem ggX3_graph_X0_build : GoodIn wsX3_graph wsX0_build := goodIn_r _ [22, 23, 24, 25, 26, 10, 27, 28, 29, 30, 31, 32, 33, 34, 21, 35, 36, 37, 38, 39, 40, 41, 42, 43, 44, 45, 46, 47, 48, 49, 50, 51, 52, 53, 54, 55, 56, 57, 58, 59, 60, 61, 62, 63, 64, 65, 66, 67, 68, 69, 70, 71, 72, 73, 74, 75, 76, 77, 82, 83, 84, 85, 86, 87, 88, 89, 90, 100, 101, 102, 103, 104] (by decide +kernel) (by decide +kernel)
set_option maxRecDepth 20000 in
theorem gX3_graph_X0_build : GoodIn wsX3_graph (wsV RX3 143 RX0 yX0_build wsX0_build) := goodIn_app (goodIn_of _ (by decide +kernel)) ggX3_graph_X0_build
set_option maxRecDepth 20000 in
theorem ggX3_reached_X3_needGraph : GoodIn wsX3_reached wsX3_needGraph := goodIn_ca (goodIn_r _ [7, 8, 9, 1, 19, 20, 21, 22, 23, 24, 25, 26, 27, 28, 29, 30, 31] (by decide +kernel) (by decide +kernel)) (goodIn_sub (fun _ h => List.mem_cons_of_mem _ (List.mem_append_right _ h)) (by decide +kernel))
set_option maxRecDepth 20000 in
theorem gX3_reached_X3_needGraph : GoodIn wsX3_reached (wsV RX3 149 RX3 yX3_needGraph wsX3_needGraph) := goodIn_app (goodIn_of _ (by decide +kernel)) ggX3_reached_X3_needGraph
set_option maxRecDepth 20000 in
theorem ggX3_reached_X0_stateOf : GoodIn wsX3_reached wsX0_stateOf := goodIn_r _ [14, 15, 16, 17, 6, 18, 23, 24, 25, 26, 27, 28, 29, 30, 31] (by decide +kernel) (by decide +kernel)
set_option maxRecDepth 20000 in
theorem gX3_reached_X0_stateOf : GoodIn wsX3_reached (wsV RX3 152 RX0 yX0_stateOf wsX0_stateOf) := goodIn_app (goodIn_of _ (by decide +kernel)) ggX3_reached_X0_stateOf
set_option maxRecDepth 20000 in
theorem ggX3_distance_X3_needGraph : GoodIn wsX3_distance wsX3_needGraph := goodIn_ca (goodIn_r _ [6, 7, 8, 1, 15, 16, 17, 18, 19, 20, 21, 22, 23, 24, 25, 26, 27] (by decide +kernel) (by decide +kernel)) (goodIn_sub (fun _ h => List.mem_cons_of_mem _ (List.mem_append_left _ (List.mem_append_right _ h))) (by decide +kernel))
set_option maxRecDepth 20000 in
theorem gX3_distance_X3_needGraph : GoodIn wsX3_distance (wsV RX3 149 RX3 yX3_needGraph wsX3_needGraph) := goodIn_app (goodIn_of _ (by decide +kernel)) ggX3_distance_X3_needGraph
set_option maxRecDepth 20000 in
theorem ggX3_distance_X3_needState : GoodIn wsX3_distance wsX3_needState := goodIn_ca (goodIn_r _ [12, 13, 14, 1, 15, 16, 17, 18, 19, 20, 21, 22, 23, 24, 25, 26, 27] (by decide +kernel) (by decide +kernel)) (goodIn_sub (fun _ h => List.mem_cons_of_mem _ (List.mem_append_right _ h)) (by decide +kernel))
set_option maxRecDepth 20000 in
theorem gX3_distance_X3_needState : GoodIn wsX3_distance (wsV RX3 156 RX3 yX3_needState wsX3_needState) := goodIn_app (goodIn_of _ (by decide +kernel)) ggX3_distance_X3_needState
set_option maxRecDepth 20000 in
theorem ggX3_found_X3_needGraph : GoodIn wsX3_found wsX3_needGraph := goodIn_ca (goodIn_r _ [6, 7, 8, 1, 15, 16, 17, 18, 19, 20, 21, 22, 23, 24, 25, 26, 27] (by decide +kernel) (by decide +kernel)) (goodIn_sub (fun _ h => List.mem_cons_of_mem _ (List.mem_append_left _ (List.mem_append_right _ h))) (by decide +kernel))
set_option maxRecDepth 20000 in
theorem gX3_found_X3_needGraph : GoodIn wsX3_found (wsV RX3 149 RX3 yX3_needGraph wsX3_needGraph) := goodIn_app (goodIn_of _ (by decide +kernel)) ggX3_found_X3_needGraph
set_option maxRecDepth 20000 in
theorem ggX3_found_X3_needState : GoodIn wsX3_found wsX3_needState := goodIn_ca (goodIn_r _ [12, 13, 14, 1, 15, 16, 17, 18, 19, 20, 21, 22, 23, 24, 25, 26, 27] (by decide +kernel) (by decide +kernel)) (goodIn_sub (fun _ h => List.mem_cons_of_mem _ (List.mem_append_right _ h)) (by decide +kernel))
set_option maxRecDepth 20000 in
theorem gX3_found_X3_needState : GoodIn wsX3_found (wsV RX3 156 RX3 yX3_needState wsX3_needState) := goodIn_app (goodIn_of _ (by decide +kernel)) ggX3_found_X3_needState
set_option maxRecDepth 20000 in
theorem ggX3_stops_X3_needGraph : GoodIn wsX3_stops wsX3_needGraph := goodIn_ca (goodIn_r _ [6, 7, 8, 1, 21, 22, 23, 24, 25, 26, 27, 28, 29, 30, 31, 32, 33] (by decide +kernel) (by decide +kernel)) (goodIn_sub (fun _ h => List.mem_cons_of_mem _ (List.mem_append_right _ h)) (by decide +kernel))
set_option maxRecDepth 20000 in
theorem gX3_stops_X3_needGraph : GoodIn wsX3_stops (wsV RX3 149 RX3 yX3_needGraph wsX3_needGraph) := goodIn_app (goodIn_of _ (by decide +kernel)) ggX3_stops_X3_needGraph
set_option maxRecDepth 20000 in
theorem ggX3_stops_X0_countStops : GoodIn wsX3_stops wsX0_countStops := goodIn_r _ [13, 14, 15, 16, 17, 12, 18, 19, 20, 25, 26, 27, 28, 29, 30, 31, 32, 33, 34, 35, 36, 37, 38] (by decide +kernel) (by decide +kernel)
set_option maxRecDepth 20000 in
theorem gX3_stops_X0_countStops : GoodIn wsX3_stops (wsV RX3 166 RX0 yX0_countStops wsX0_countStops) := goodIn_app (goodIn_of _ (by decide +kernel)) ggX3_stops_X0_countStops
set_option maxRecDepth 20000 in
theorem ggX3_live_X3_needGraph : GoodIn wsX3_live wsX3_needGraph := goodIn_ca (goodIn_r _ [6, 7, 8, 1, 23, 24, 25, 26, 27, 28, 29, 30, 31, 32, 33, 34, 35] (by decide +kernel) (by decide +kernel)) (goodIn_sub (fun _ h => List.mem_cons_of_mem _ (List.mem_append_left _ (List.mem_append_right _ h))) (by decide +kernel))
set_option maxRecDepth 20000 in
theorem gX3_live_X3_needGraph : GoodIn wsX3_live (wsV RX3 149 RX3 yX3_needGraph wsX3_needGraph) := goodIn_app (goodIn_of _ (by decide +kernel)) ggX3_live_X3_needGraph
set_option maxRecDepth 20000 in
theorem ggX3_live_X3_needTransition : GoodIn wsX3_live wsX3_needTransition := goodIn_ca (goodIn_r _ [12, 13, 14, 15, 23, 24, 25, 26, 36, 37, 38, 39, 40] (by decide +kernel) (by decide +kernel)) (goodIn_sub (fun _ h => List.mem_cons_of_mem _ (List.mem_append_right _ h)) (by decide +kernel))
set_option maxRecDepth 20000 in
theorem gX3_live_X3_needTransition : GoodIn wsX3_live (wsV RX3 71 RX3 yX3_needTransition wsX3_needTransition) := goodIn_app (goodIn_of _ (by decide +kernel)) ggX3_live_X3_needTransition
set_option maxRecDepth 20000 in
theorem ggX3_live_X0_staysPossible : GoodIn wsX3_live wsX0_staysPossible := goodIn_r _ [20, 21, 22, 27, 28, 29, 30, 31, 32, 33, 34, 35] (by decide +kernel) (by decide +kernel)
set_option maxRecDepth 20000 in
theorem gX3_live_X0_staysPossible : GoodIn wsX3_live (wsV RX3 169 RX0 yX0_staysPossible wsX0_staysPossible) := goodIn_app (goodIn_of _ (by decide +kernel)) ggX3_live_X0_staysPossible
set_option maxRecDepth 20000 in
theorem ggX4_place_X4_discard : GoodIn wsX4_place wsX4_discard := goodIn_r _ [11, 12, 13, 14, 15, 16, 17, 18, 19, 20, 21, 22, 23, 24, 25, 26, 27, 28, 29, 30, 31, 32, 33, 34, 35] (by decide +kernel) (by decide +kernel)
set_option maxRecDepth 20000 in
theorem gX4_place_X4_discard : GoodIn wsX4_place (wsV RX4 72 RX4 yX4_discard wsX4_discard) := goodIn_app (goodIn_of _ (by decide +kernel)) ggX4_place_X4_discard
set_option maxRecDepth 20000 in
theorem ggX4_transition_X4_discard : GoodIn wsX4_transition wsX4_discard := goodIn_r _ [7, 8, 9, 10, 11, 12, 13, 14, 15, 16, 17, 18, 19, 20, 21, 22, 23, 24, 25, 26, 27, 28, 29, 30, 31] (by decide +kernel) (by decide +kernel)
set_option maxRecDepth 20000 in
theorem gX4_transition_X4_discard : GoodIn wsX4_transition (wsV RX4 72 RX4 yX4_discard wsX4_discard) := goodIn_app (goodIn_of _ (by decide +kernel)) ggX4_transition_X4_discard
set_option maxRecDepth 20000 in
theorem ggX4_arc_X4_noPlace : GoodIn wsX4_arc wsX4_noPlace := goodIn_r _ [8, 9, 21, 22, 23, 24, 25, 26, 27, 28, 29, 30, 31, 32, 33, 34, 35, 36, 37, 38, 39, 40, 41, 42] (by decide +kernel) (by decide +kernel)
set_option maxRecDepth 20000 in
theorem gX4_arc_X4_noPlace : GoodIn wsX4_arc (wsV RX4 75 RX4 yX4_noPlace wsX4_noPlace) := goodIn_app (goodIn_of _ (by decide +kernel)) ggX4_arc_X4_noPlace
set_option maxRecDepth 20000 in
theorem ggX4_arc_X4_noTransition : GoodIn wsX4_arc wsX4_noTransition := goodIn_r _ [13, 14, 21, 22, 23, 24, 25, 26, 27, 28, 29, 30, 31, 32, 33, 34, 35, 36, 37, 38, 39, 40, 41, 42] (by decide +kernel) (by decide +kernel)
set_option maxRecDepth 20000 in
theorem gX4_arc_X4_noTransition : GoodIn wsX4_arc (wsV RX4 79 RX4 yX4_noTransition wsX4_noTransition) := goodIn_app (goodIn_of _ (by decide +kernel)) ggX4_arc_X4_noTransition
set_option maxRecDepth 20000 in
theorem ggX4_arc_X4_discard : GoodIn wsX4_arc wsX4_discard := goodIn_r _ [18, 19, 20, 21, 22, 23, 24, 25, 26, 27, 28, 29, 30, 31, 32, 33, 34, 35, 36, 37, 38, 39, 40, 41, 42] (by decide +kernel) (by decide +kernel)
set_option maxRecDepth 20000 in
theorem gX4_arc_X4_discard : GoodIn wsX4_arc (wsV RX4 72 RX4 yX4_discard wsX4_discard) := goodIn_app (goodIn_of _ (by decide +kernel)) ggX4_arc_X4_discard
set_option maxRecDepth 20000 in
theorem ggX4_tokens_X4_noPlace : GoodIn wsX4_tokens wsX4_noPlace := goodIn_r _ [7, 8, 15, 16, 17, 18, 19, 20, 21, 22, 23, 24, 25, 26, 27, 28, 29, 30, 31, 32, 33, 34, 35, 36] (by decide +kernel) (by decide +kernel)
set_option maxRecDepth 20000 in
theorem gX4_tokens_X4_noPlace : GoodIn wsX4_tokens (wsV RX4 75 RX4 yX4_noPlace wsX4_noPlace) := goodIn_app (goodIn_of _ (by decide +kernel)) ggX4_tokens_X4_noPlace
set_option maxRecDepth 20000 in
theorem ggX4_tokens_X4_discard : GoodIn wsX4_tokens wsX4_discard := goodIn_r _ [12, 13, 14, 15, 16, 17, 18, 19, 20, 21, 22, 23, 24, 25, 26, 27, 28, 29, 30, 31, 32, 33, 34, 35, 36] (by decide +kernel) (by decide +kernel)
set_option maxRecDepth 20000 in
theorem gX4_tokens_X4_discard : GoodIn wsX4_tokens (wsV RX4 72 RX4 yX4_discard wsX4_discard) := goodIn_app (goodIn_of _ (by decide +kernel)) ggX4_tokens_X4_discard
set_option maxRecDepth 20000 in
theorem ggX4_addNode_X4_sameAs : GoodIn wsX4_addNode wsX4_sameAs := goodIn_r _ [13, 3, 4, 5, 14, 15, 16, 17, 18, 19, 20, 21, 22, 23, 24, 25, 26, 27, 28, 29, 30, 31, 32, 33, 34, 35] (by decide +kernel) (by decide +kernel)
set_option maxRecDepth 20000 in
theorem gX4_addNode_X4_sameAs : GoodIn wsX4_addNode (wsV RX4 82 RX4 yX4_sameAs wsX4_sameAs) := goodIn_app (goodIn_of _ (by decide +kernel)) ggX4_addNode_X4_sameAs
set_option maxRecDepth 20000 in
theorem ggX4_fire_X4_below : GoodIn wsX4_fire wsX4_below := goodIn_r _ [15, 1, 2, 3, 16, 17, 18, 19, 20, 21, 22, 23, 24, 25, 26, 27, 28, 29, 30, 31, 32, 33, 34, 35, 36, 37] (by decide +kernel) (by decide +kernel)
set_option maxRecDepth 20000 in
theorem gX4_fire_X4_below : GoodIn wsX4_fire (wsV RX4 86 RX4 yX4_below wsX4_below) := goodIn_app (goodIn_of _ (by decide +kernel)) ggX4_fire_X4_below
set_option maxRecDepth 20000 in
theorem ggX4_explore_X4_discard : GoodIn wsX4_explore wsX4_discard := goodIn_r _ [16, 2, 17, 43, 44, 45, 46, 47, 48, 49, 50, 51, 52, 53, 54, 55, 56, 57, 58, 59, 60, 61, 62, 63, 64] (by decide +kernel) (by decide +kernel)
set_option maxRecDepth 20000 in
theorem gX4_explore_X4_discard : GoodIn wsX4_explore (wsV RX4 72 RX4 yX4_discard wsX4_discard) := goodIn_app (goodIn_of _ (by decide +kernel)) ggX4_explore_X4_discard
set_option maxRecDepth 20000 in
theorem ggX4_explore_X4_addNode : GoodIn wsX4_explore wsX4_addNode := goodIn_r _ [21, 2, 8, 5, 22, 6, 11, 23, 9, 24, 25, 26, 15, 27, 43, 44, 45, 46, 47, 48, 49, 50, 51, 52, 53, 54, 55, 56, 57, 58, 59, 60, 61, 62, 63, 64] (by decide +kernel) (by decide +kernel)
set_option maxRecDepth 20000 in
theorem gX4_explore_X4_addNode : GoodIn wsX4_explore (wsV RX4 95 RX4 yX4_addNode wsX4_addNode) := goodIn_app (goodIn_of _ (by decide +kernel)) ggX4_explore_X4_addNode
set_option maxRecDepth 20000 in
theorem ggX4_explore_X4_enabledAt : GoodIn wsX4_explore wsX4_enabledAt := goodIn_r _ [31, 5, 22, 32, 43, 44, 45, 46, 47, 48, 49, 50, 51, 52, 53, 54, 55, 56, 57, 58, 59, 60, 61, 62, 63, 64] (by decide +kernel) (by decide +kernel)
set_option maxRecDepth 20000 in
theorem gX4_explore_X4_enabledAt : GoodIn wsX4_explore (wsV RX4 99 RX4 yX4_enabledAt wsX4_enabledAt) := goodIn_app (goodIn_of _ (by decide +kernel)) ggX4_explore_X4_enabledAt
set_option maxRecDepth 20000 in
theorem ggX4_explore_X4_fire : GoodIn wsX4_explore wsX4_fire := goodIn_r _ [36, 5, 22, 6, 37, 32, 38, 3, 2, 4, 11, 39, 40, 41, 15, 42, 43, 44, 45, 46, 47, 48, 49, 50, 51, 52, 53, 54, 55, 56, 57, 58, 59, 60, 61, 62, 63, 64] (by decide +kernel) (by decide +kernel)
set_option maxRecDepth 20000 in
theorem gX4_explore_X4_fire : GoodIn wsX4_explore (wsV RX4 103 RX4 yX4_fire wsX4_fire) := goodIn_app (goodIn_of _ (by decide +kernel)) ggX4_explore_X4_fire
set_option maxRecDepth 20000 in
theorem ggX4_count_X4_noPlace : GoodIn wsX4_count wsX4_noPlace := goodIn_r _ [8, 9, 14, 15, 16, 17, 18, 19, 20, 21, 22, 23, 24, 25, 26, 27, 28, 29, 30, 31, 32, 33, 34, 35] (by decide +kernel) (by decide +kernel)
set_option maxRecDepth 20000 in
theorem gX4_count_X4_noPlace : GoodIn wsX4_count (wsV RX4 75 RX4 yX4_noPlace wsX4_noPlace) := goodIn_app (goodIn_of _ (by decide +kernel)) ggX4_count_X4_noPlace
set_option maxRecDepth 20000 in
theorem ggX4_count_X4_told : GoodIn wsX4_count wsX4_told := goodIn_r _ [12, 13] (by decide +kernel) (by decide +kernel)
set_option maxRecDepth 20000 in
theorem gX4_count_X4_told : GoodIn wsX4_count (va_wsS RX4 106 yX4_told wsX4_told) := goodIn_app (goodIn_of _ (by decide +kernel)) ggX4_count_X4_told
set_option maxRecDepth 20000 in
theorem ggX4_bound_X4_noPlace : GoodIn wsX4_bound wsX4_noPlace := goodIn_r _ [7, 8, 18, 19, 20, 21, 22, 23, 24, 25, 26, 27, 28, 29, 30, 31, 32, 33, 34, 35, 36, 37, 38, 39] (by decide +kernel) (by decide +kernel)
set_option maxRecDepth 20000 in
theorem gX4_bound_X4_noPlace : GoodIn wsX4_bound (wsV RX4 75 RX4 yX4_noPlace wsX4_noPlace) := goodIn_app (goodIn_of _ (by decide +kernel)) ggX4_bound_X4_noPlace
set_option maxRecDepth 20000 in
theorem ggX4_bound_X4_greatest : GoodIn wsX4_bound wsX4_greatest := goodIn_r _ [12, 1, 13, 18, 19, 20, 21, 22, 23, 24, 25, 26, 27, 28, 29, 30, 31, 32, 33, 34, 35, 36, 37, 38, 39] (by decide +kernel) (by decide +kernel)
set_option maxRecDepth 20000 in
theorem gX4_bound_X4_greatest : GoodIn wsX4_bound (wsV RX4 110 RX4 yX4_greatest wsX4_greatest) := goodIn_app (goodIn_of _ (by decide +kernel)) ggX4_bound_X4_greatest
set_option maxRecDepth 20000 in
theorem ggX4_bound_X4_told : GoodIn wsX4_bound wsX4_told := goodIn_r _ [16, 17] (by decide +kernel) (by decide +kernel)
set_option maxRecDepth 20000 in
theorem gX4_bound_X4_told : GoodIn wsX4_bound (va_wsS RX4 106 yX4_told wsX4_told) := goodIn_app (goodIn_of _ (by decide +kernel)) ggX4_bound_X4_told
set_option maxRecDepth 20000 in
theorem ggX4_want_X4_noPlace : GoodIn wsX4_want wsX4_noPlace := goodIn_r _ [7, 8, 9, 10, 11, 12, 13, 14, 15, 16, 17, 18, 19, 20, 21, 22, 23, 24, 25, 26, 27, 28, 29, 30] (by decide +kernel) (by decide +kernel)
set_option maxRecDepth 20000 in
theorem gX4_want_X4_noPlace : GoodIn wsX4_want (wsV RX4 75 RX4 yX4_noPlace wsX4_noPlace) := goodIn_app (goodIn_of _ (by decide +kernel)) ggX4_want_X4_noPlace
set_option maxRecDepth 20000 in
theorem ggX4_possible_X4_noTransition : GoodIn wsX4_possible wsX4_noTransition := goodIn_r _ [7, 8, 16, 17, 18, 19, 20, 21, 22, 23, 24, 25, 26, 27, 28, 29, 30, 31, 32, 33, 34, 35, 36, 37] (by decide +kernel) (by decide +kernel)
set_option maxRecDepth 20000 in
theorem gX4_possible_X4_noTransition : GoodIn wsX4_possible (wsV RX4 79 RX4 yX4_noTransition wsX4_noTransition) := goodIn_app (goodIn_of _ (by decide +kernel)) ggX4_possible_X4_noTransition
set_option maxRecDepth 20000 in
theorem ggX4_possible_X4_enabledAt : GoodIn wsX4_possible wsX4_enabledAt := goodIn_r _ [12, 13, 14, 15, 16, 17, 18, 19, 20, 21, 22, 23, 24, 25, 26, 27, 28, 29, 30, 31, 32, 33, 34, 35, 36, 37] (by decide +kernel) (by decide +kernel)
set_option maxRecDepth 20000 in
theorem gX4_possible_X4_enabledAt : GoodIn wsX4_possible (wsV RX4 99 RX4 yX4_enabledAt wsX4_enabledAt) := goodIn_app (goodIn_of _ (by decide +kernel)) ggX4_possible_X4_enabledAt
set_option maxRecDepth 20000 in
theorem ggX4_growth_X4_depth : GoodIn wsX4_growth wsX4_depth := goodIn_r _ [11, 5, 12, 13, 14, 15, 16, 17, 18, 19, 20, 21, 22, 23, 24, 25, 26, 27, 28, 29, 30, 31, 32, 33] (by decide +kernel) (by decide +kernel)
set_option maxRecDepth 20000 in
theorem gX4_growth_X4_depth : GoodIn wsX4_growth (wsV RX4 113 RX4 yX4_depth wsX4_depth) := goodIn_app (goodIn_of _ (by decide +kernel)) ggX4_growth_X4_depth
set_option maxRecDepth 20000 in
theorem ggX4_anyEndless_X4_greatest : GoodIn wsX4_anyEndless wsX4_greatest := goodIn_r _ [7, 8, 9, 10, 11, 12, 13, 14, 15, 16, 17, 18, 19, 20, 21, 22, 23, 24, 25, 26, 27, 28, 29, 30, 31] (by decide +kernel) (by decide +kernel)
set_option maxRecDepth 20000 in
theorem gX4_anyEndless_X4_greatest : GoodIn wsX4_anyEndless (wsV RX4 110 RX4 yX4_greatest wsX4_greatest) := goodIn_app (goodIn_of _ (by decide +kernel)) ggX4_anyEndless_X4_greatest
set_option maxRecDepth 20000 in
theorem ggX4_graph_X4_anyEndless : GoodIn wsX4_graph wsX4_anyEndless := goodIn_r _ [16, 4, 17, 18, 19, 20, 15, 21, 1, 22, 37, 38, 39, 40, 41, 42, 43, 44, 45, 46, 47, 48, 49, 50, 51, 52, 53, 54, 55, 56, 57, 58] (by decide +kernel) (by decide +kernel)
set_option maxRecDepth 20000 in
theorem gX4_graph_X4_anyEndless : GoodIn wsX4_graph (wsV RX4 116 RX4 yX4_anyEndless wsX4_anyEndless) := goodIn_app (goodIn_of _ (by decide +kernel)) ggX4_graph_X4_anyEndless
set_option maxRecDepth 20000 in
theorem ggX4_graph_X4_addState : GoodIn wsX4_graph wsX4_addState := goodIn_r _ [26, 4, 9, 3, 5, 27, 28, 37, 38, 39, 40, 41, 42, 43, 44, 45, 46, 47, 48, 49, 50, 51, 52, 53, 54, 55, 56, 57, 58] (by decide +kernel) (by decide +kernel)
set_option maxRecDepth 20000 in
theorem gX4_graph_X4_addState : GoodIn wsX4_graph (wsV RX4 120 RX4 yX4_addState wsX4_addState) := goodIn_app (goodIn_of _ (by decide +kernel)) ggX4_graph_X4_addState
set_option maxRecDepth 20000 in
theorem ggX4_graph_X4_enabledIn : GoodIn wsX4_graph wsX4_enabledIn := goodIn_r _ [32, 4, 9, 10, 37, 38, 39, 40, 41, 42, 43, 44, 45, 46, 47, 48, 49, 50, 51, 52, 53, 54, 55, 56, 57, 58] (by decide +kernel) (by decide +kernel)
set_option maxRecDepth 20000 in
theorem gX4_graph_X4_enabledIn : GoodIn wsX4_graph (wsV RX4 123 RX4 yX4_enabledIn wsX4_enabledIn) := goodIn_app (goodIn_of _ (by decide +kernel)) ggX4_graph_X4_enabledIn
set_option maxRecDepth 20000 in
theorem ggX4_graph_X4_find : GoodIn wsX4_graph wsX4_find := goodIn_r _ [36, 3, 4, 9, 5, 37, 38, 39, 40, 41, 42, 43, 44, 45, 46, 47, 48, 49, 50, 51, 52, 53, 54, 55, 56, 57, 58] (by decide +kernel) (by decide +kernel)
set_option maxRecDepth 20000 in
theorem gX4_graph_X4_find : GoodIn wsX4_graph (wsV RX4 126 RX4 yX4_find wsX4_find) := goodIn_app (goodIn_of _ (by decide +kernel)) ggX4_graph_X4_find
set_option maxRecDepth 20000 in
theorem ggX4_reached_X4_find : GoodIn wsX4_reached wsX4_find := goodIn_r _ [10, 1, 3, 11, 4, 12, 13, 14, 15, 16, 17, 18, 19, 20, 21, 22, 23, 24, 25, 26, 27, 28, 29, 30, 31, 32, 33] (by decide +kernel) (by decide +kernel)
set_option maxRecDepth 20000 in
theorem gX4_reached_X4_find : GoodIn wsX4_reached (wsV RX4 126 RX4 yX4_find wsX4_find) := goodIn_app (goodIn_of _ (by decide +kernel)) ggX4_reached_X4_find
set_option maxRecDepth 20000 in
theorem ggX4_distance_X4_noState : GoodIn wsX4_distance wsX4_noState := goodIn_r _ [6, 7, 8, 9, 10, 11, 12, 13, 14, 15, 16, 17, 18, 19, 20, 21, 22, 23, 24, 25, 26, 27, 28, 29, 30] (by decide +kernel) (by decide +kernel)
set_option maxRecDepth 20000 in
theorem gX4_distance_X4_noState : GoodIn wsX4_distance (wsV RX4 130 RX4 yX4_noState wsX4_noState) := goodIn_app (goodIn_of _ (by decide +kernel)) ggX4_distance_X4_noState
set_option maxRecDepth 20000 in
theorem ggX4_found_X4_noState : GoodIn wsX4_found wsX4_noState := goodIn_r _ [7, 8, 9, 10, 11, 12, 13, 14, 15, 16, 17, 18, 19, 20, 21, 22, 23, 24, 25, 26, 27, 28, 29, 30, 31] (by decide +kernel) (by decide +kernel)
set_option maxRecDepth 20000 in
theorem gX4_found_X4_noState : GoodIn wsX4_found (wsV RX4 130 RX4 yX4_noState wsX4_noState) := goodIn_app (goodIn_of _ (by decide +kernel)) ggX4_found_X4_noState
set_option maxRecDepth 20000 in
theorem ggX4_live_X4_noTransition : GoodIn wsX4_live wsX4_noTransition := goodIn_r _ [10, 5, 11, 12, 13, 14, 15, 16, 17, 18, 19, 20, 21, 22, 23, 24, 25, 26, 27, 28, 29, 30, 31, 32] (by decide +kernel) (by decide +kernel)
set_option maxRecDepth 20000 in
theorem gX4_live_X4_noTransition : GoodIn wsX4_live (wsV RX4 79 RX4 yX4_noTransition wsX4_noTransition) := goodIn_app (goodIn_of _ (by decide +kernel)) ggX4_live_X4_noTransition
theorem dJ9_max_7cf53_0 : decode cJ9_max_7cf53 0 = .ok (.iload_n 0, 1) := by decide +kernel
theorem dJ9_max_7cf53_1 : decode cJ9_max_7cf53 1 = .ok (.iload_n 1, 1) := by decide +kernel
theorem dJ9_max_7cf53_2 : decode cJ9_max_7cf53 2 = .ok (.if_icmp .lt 7, 3) := by decide +kernel
theorem dJ9_max_7cf53_5 : decode cJ9_max_7cf53 5 = .ok (.iload_n 0, 1) := by decide +kernel
theorem dJ9_max_7cf53_6 : decode cJ9_max_7cf53 6 = .ok (.goto 4, 3) := by decide +kernel
theorem dJ9_max_7cf53_9 : decode cJ9_max_7cf53 9 = .ok (.iload_n 1, 1) := by decide +kernel
theorem dJ9_max_7cf53_10 : decode cJ9_max_7cf53 10 = .ok (.ireturn, 1) := by decide +kernel
