set_option maxRecDepth 20000 in
theorem ggX0_build_X3_copyInto : GoodIn wsX0_build wsX3_copyInto := goodIn_r _ [6, 7, 8, 9, 10] (by decide +kernel) (by decide +kernel)
set_option maxRecDepth 20000 in
theorem gX0_build_X3_copyInto_n44 : GoodIn wsX0_build (wsX3_copyInto) := ggX0_build_X3_copyInto
set_option maxRecDepth 20000 in
theorem ggX0_build_X0_addState : GoodIn wsX0_build wsX0_addState := goodIn_r _ [15, 3, 16, 1, 17, 18, 19, 4, 5, 6, 7, 8, 9, 10, 58, 59, 60, 61, 62, 63, 64, 65, 66] (by decide +kernel) (by decide +kernel)
set_option maxRecDepth 20000 in
theorem gX0_build_X0_addState : GoodIn wsX0_build (wsV RX0 52 RX0 yX0_addState wsX0_addState) := goodIn_app (goodIn_of _ (by decide +kernel)) ggX0_build_X0_addState
set_option maxRecDepth 20000 in
theorem ggX0_build_X0_follow : GoodIn wsX0_build wsX0_follow := goodIn_r _ [23, 2, 24, 16, 1, 3, 19, 25, 26, 27, 28, 29, 30, 31, 5, 32, 33, 34, 35, 36, 37, 38, 39, 40, 41, 14, 42, 43, 44, 11, 12, 13, 15, 17, 18, 4, 6, 7, 8, 9, 10, 58, 59, 60, 61, 62, 63, 64, 65, 66, 67, 68, 69, 70, 71] (by decide +kernel) (by decide +kernel)
set_option maxRecDepth 20000 in
theorem gX0_build_X0_follow : GoodIn wsX0_build (wsV RX0 56 RX0 yX0_follow wsX0_follow) := goodIn_app (goodIn_of _ (by decide +kernel)) ggX0_build_X0_follow
set_option maxRecDepth 20000 in
theorem ggX0_build_X0_lookAhead : GoodIn wsX0_build wsX0_lookAhead := goodIn_r _ [48, 3, 49, 50, 51, 52, 14, 53, 2, 24, 54, 55, 56, 57, 58, 59, 60, 61, 62, 63, 64, 65, 66, 67, 68, 69, 70, 71] (by decide +kernel) (by decide +kernel)
set_option maxRecDepth 20000 in
theorem gX0_build_X0_lookAhead : GoodIn wsX0_build (wsV RX0 60 RX0 yX0_lookAhead wsX0_lookAhead) := goodIn_app (goodIn_of _ (by decide +kernel)) ggX0_build_X0_lookAhead
set_option maxRecDepth 20000 in
theorem ggX0_follow_X1_enables : GoodIn wsX0_follow wsX1_enables := goodIn_r _ [11, 12, 13, 14, 15, 50, 51, 52, 53, 54] (by decide +kernel) (by decide +kernel)
set_option maxRecDepth 20000 in
theorem gX0_follow_X1_enables : GoodIn wsX0_follow (wsV RX0 66 RX1 yX1_enables wsX1_enables) := goodIn_app (goodIn_of _ (by decide +kernel)) ggX0_follow_X1_enables
set_option maxRecDepth 20000 in
theorem ggX0_follow_X1_fire : GoodIn wsX0_follow wsX1_fire := goodIn_r _ [19, 20, 12, 21, 50, 51, 52, 53, 54] (by decide +kernel) (by decide +kernel)
set_option maxRecDepth 20000 in
theorem gX0_follow_X1_fire : GoodIn wsX0_follow (wsV RX0 70 RX1 yX1_fire wsX1_fire) := goodIn_app (goodIn_of _ (by decide +kernel)) ggX0_follow_X1_fire
set_option maxRecDepth 20000 in
theorem ggX0_follow_X0_stateOf : GoodIn wsX0_follow wsX0_stateOf := goodIn_r _ [26, 5, 3, 27, 14, 28, 41, 42, 43, 44, 45, 46, 47, 48, 49] (by decide +kernel) (by decide +kernel)
set_option maxRecDepth 20000 in
theorem gX0_follow_X0_stateOf : GoodIn wsX0_follow (wsV RX0 74 RX0 yX0_stateOf wsX0_stateOf) := goodIn_app (goodIn_of _ (by decide +kernel)) ggX0_follow_X0_stateOf
set_option maxRecDepth 20000 in
theorem ggX0_follow_X0_addState : GoodIn wsX0_follow wsX0_addState := goodIn_r _ [32, 5, 3, 4, 33, 34, 6, 35, 14, 36, 37, 38, 39, 40, 41, 42, 43, 44, 45, 46, 47, 48, 49] (by decide +kernel) (by decide +kernel)
set_option maxRecDepth 20000 in
theorem gX0_follow_X0_addState : GoodIn wsX0_follow (wsV RX0 52 RX0 yX0_addState wsX0_addState) := goodIn_app (goodIn_of _ (by decide +kernel)) ggX0_follow_X0_addState
set_option maxRecDepth 20000 in
theorem ggX0_addState_X3_copyInto : GoodIn wsX0_addState wsX3_copyInto := goodIn_r _ [9, 10, 11, 12, 13] (by decide +kernel) (by decide +kernel)
set_option maxRecDepth 20000 in
theorem gX0_addState_X3_copyInto_n44 : GoodIn wsX0_addState (wsX3_copyInto) := ggX0_addState_X3_copyInto
set_option maxRecDepth 20000 in
theorem ggX0_lookAhead_X0_enabledIn : GoodIn wsX0_lookAhead wsX0_enabledIn := goodIn_r _ [7, 8, 9, 14, 15, 16, 17, 18, 19, 20, 21, 22, 23, 24, 25, 26, 27] (by decide +kernel) (by decide +kernel)
set_option maxRecDepth 20000 in
theorem gX0_lookAhead_X0_enabledIn : GoodIn wsX0_lookAhead (wsV RX0 78 RX0 yX0_enabledIn wsX0_enabledIn) := goodIn_app (goodIn_of _ (by decide +kernel)) ggX0_lookAhead_X0_enabledIn
set_option maxRecDepth 20000 in
theorem ggX0_lookAhead_X0_aheadOfNext : GoodIn wsX0_lookAhead wsX0_aheadOfNext := goodIn_r _ [13, 8, 9, 2, 14, 15, 16, 17, 18, 19, 20, 21, 22, 23, 24, 25, 26, 27] (by decide +kernel) (by decide +kernel)
set_option maxRecDepth 20000 in
theorem gX0_lookAhead_X0_aheadOfNext : GoodIn wsX0_lookAhead (wsV RX0 82 RX0 yX0_aheadOfNext wsX0_aheadOfNext) := goodIn_app (goodIn_of _ (by decide +kernel)) ggX0_lookAhead_X0_aheadOfNext
set_option maxRecDepth 20000 in
theorem ggX0_stateOf_X3_same : GoodIn wsX0_stateOf wsX3_same := goodIn_r _ [5] (by decide +kernel) (by decide +kernel)
set_option maxRecDepth 20000 in
theorem gX0_stateOf_X3_same_n85 : GoodIn wsX0_stateOf (wsX3_same) := ggX0_stateOf_X3_same
set_option maxRecDepth 20000 in
theorem ggX0_countStops_X0_enabledIn : GoodIn wsX0_countStops wsX0_enabledIn := goodIn_r _ [6, 7, 8, 9, 10, 11, 12, 13, 14, 15, 16, 17, 18, 19, 20, 21, 22] (by decide +kernel) (by decide +kernel)
set_option maxRecDepth 20000 in
theorem gX0_countStops_X0_enabledIn : GoodIn wsX0_countStops (wsV RX0 78 RX0 yX0_enabledIn wsX0_enabledIn) := goodIn_app (goodIn_of _ (by decide +kernel)) ggX0_countStops_X0_enabledIn
set_option maxRecDepth 20000 in
theorem ggX1_enables_X3_covers : GoodIn wsX1_enables wsX3_covers := goodIn_r _ [4] (by decide +kernel) (by decide +kernel)
set_option maxRecDepth 20000 in
theorem gX1_enables_X3_covers_n30 : GoodIn wsX1_enables (wsX3_covers) := ggX1_enables_X3_covers
set_option maxRecDepth 20000 in
theorem ggX2_grow_X2_addRoot : GoodIn wsX2_grow wsX2_addRoot := goodIn_r _ [11, 5, 2, 4, 3, 12, 1, 13, 6, 14, 15, 16, 17, 18, 19, 20, 59, 60, 61, 62, 63, 64, 65, 66, 67, 68, 69, 70, 71, 72] (by decide +kernel) (by decide +kernel)
set_option maxRecDepth 20000 in
theorem gX2_grow_X2_addRoot : GoodIn wsX2_grow (wsV RX2 34 RX2 yX2_addRoot wsX2_addRoot) := goodIn_app (goodIn_of _ (by decide +kernel)) ggX2_grow_X2_addRoot
set_option maxRecDepth 20000 in
theorem ggX2_grow_X1_enables : GoodIn wsX2_grow wsX1_enables := goodIn_r _ [25, 26, 27, 15, 28, 68, 69, 70, 71, 72] (by decide +kernel) (by decide +kernel)
set_option maxRecDepth 20000 in
theorem gX2_grow_X1_enables : GoodIn wsX2_grow (wsV RX2 43 RX1 yX1_enables wsX1_enables) := goodIn_app (goodIn_of _ (by decide +kernel)) ggX2_grow_X1_enables
set_option maxRecDepth 20000 in
theorem ggX2_grow_X2_addChild : GoodIn wsX2_grow wsX2_addChild := goodIn_r _ [32, 6, 2, 5, 4, 3, 12, 1, 33, 34, 35, 24, 36, 37, 26, 38, 39, 40, 41, 10, 42, 27, 15, 28, 43, 44, 45, 46, 47, 48, 49, 50, 51, 52, 53, 13, 54, 55, 56, 57, 58, 59, 60, 61, 62, 63, 64, 65, 66, 67, 68, 69, 70, 71, 72] (by decide +kernel) (by decide +kernel)
set_option maxRecDepth 20000 in
theorem gX2_grow_X2_addChild : GoodIn wsX2_grow (wsV RX2 50 RX2 yX2_addChild wsX2_addChild) := goodIn_app (goodIn_of _ (by decide +kernel)) ggX2_grow_X2_addChild
set_option maxRecDepth 20000 in
theorem ggX2_addRoot_X3_copyInto : GoodIn wsX2_addRoot wsX3_copyInto := goodIn_r _ [11, 12, 13, 14, 15] (by decide +kernel) (by decide +kernel)
set_option maxRecDepth 20000 in
theorem gX2_addRoot_X3_copyInto_n57 : GoodIn wsX2_addRoot (wsX3_copyInto) := ggX2_addRoot_X3_copyInto
set_option maxRecDepth 20000 in
theorem ggX2_addChild_X1_fire : GoodIn wsX2_addChild wsX1_fire := goodIn_r _ [12, 13, 14, 15, 50, 51, 52, 53, 54] (by decide +kernel) (by decide +kernel)
set_option maxRecDepth 20000 in
theorem gX2_addChild_X1_fire : GoodIn wsX2_addChild (wsV RX2 64 RX1 yX1_fire wsX1_fire) := goodIn_app (goodIn_of _ (by decide +kernel)) ggX2_addChild_X1_fire
set_option maxRecDepth 20000 in
theorem ggX2_addChild_X2_makeEndlessWhatRepeats : GoodIn wsX2_addChild wsX2_makeEndlessWhatRepeats := goodIn_r _ [20, 3, 4, 6, 21, 22, 23, 24, 25, 26, 27, 28, 19, 29, 30, 31, 32, 33, 34, 35, 36, 41, 42, 43, 44, 45, 46, 47, 48, 49] (by decide +kernel) (by decide +kernel)
set_option maxRecDepth 20000 in
theorem gX2_addChild_X2_makeEndlessWhatRepeats : GoodIn wsX2_addChild (wsV RX2 68 RX2 yX2_makeEndlessWhatRepeats wsX2_makeEndlessWhatRepeats) := goodIn_app (goodIn_of _ (by decide +kernel)) ggX2_addChild_X2_makeEndlessWhatRepeats
set_option maxRecDepth 20000 in
theorem ggX2_addChild_X2_isAmongEarlier : GoodIn wsX2_addChild wsX2_isAmongEarlier := goodIn_r _ [40, 3, 24, 22, 25, 41, 42, 43, 44, 45, 46, 47, 48, 49] (by decide +kernel) (by decide +kernel)
set_option maxRecDepth 20000 in
theorem gX2_addChild_X2_isAmongEarlier : GoodIn wsX2_addChild (wsV RX2 72 RX2 yX2_isAmongEarlier wsX2_isAmongEarlier) := goodIn_app (goodIn_of _ (by decide +kernel)) ggX2_addChild_X2_isAmongEarlier
set_option maxRecDepth 20000 in
theorem ggX2_makeEndlessWhatRepeats_X3_covers : GoodIn wsX2_makeEndlessWhatRepeats wsX3_covers := goodIn_r _ [6] (by decide +kernel) (by decide +kernel)
set_option maxRecDepth 20000 in
theorem gX2_makeEndlessWhatRepeats_X3_covers_n76 : GoodIn wsX2_makeEndlessWhatRepeats (wsX3_covers) := ggX2_makeEndlessWhatRepeats_X3_covers
set_option maxRecDepth 20000 in
theorem ggX2_makeEndlessWhatRepeats_X3_same : GoodIn wsX2_makeEndlessWhatRepeats wsX3_same := goodIn_r _ [8] (by decide +kernel) (by decide +kernel)
set_option maxRecDepth 20000 in
theorem gX2_makeEndlessWhatRepeats_X3_same_n80 : GoodIn wsX2_makeEndlessWhatRepeats (wsX3_same) := ggX2_makeEndlessWhatRepeats_X3_same
set_option maxRecDepth 20000 in
theorem ggX2_makeEndlessWhatRepeats_X2_makeEndlessWhereMore : GoodIn wsX2_makeEndlessWhatRepeats wsX2_makeEndlessWhereMore := goodIn_r _ [13, 14] (by decide +kernel) (by decide +kernel)
set_option maxRecDepth 20000 in
theorem gX2_makeEndlessWhatRepeats_X2_makeEndlessWhereMore : GoodIn wsX2_makeEndlessWhatRepeats (wsV RX2 83 RX2 yX2_makeEndlessWhereMore wsX2_makeEndlessWhereMore) := goodIn_app (goodIn_of _ (by decide +kernel)) ggX2_makeEndlessWhatRepeats_X2_makeEndlessWhereMore
set_option maxRecDepth 20000 in
theorem ggX2_makeEndlessWhatRepeats_X2_noteFirstEndless : GoodIn wsX2_makeEndlessWhatRepeats wsX2_noteFirstEndless := goodIn_r _ [18, 19, 20, 21, 22, 23, 24, 25, 26, 27, 28, 29] (by decide +kernel) (by decide +kernel)
set_option maxRecDepth 20000 in
theorem gX2_makeEndlessWhatRepeats_X2_noteFirstEndless : GoodIn wsX2_makeEndlessWhatRepeats (wsV RX2 86 RX2 yX2_noteFirstEndless wsX2_noteFirstEndless) := goodIn_app (goodIn_of _ (by decide +kernel)) ggX2_makeEndlessWhatRepeats_X2_noteFirstEndless
set_option maxRecDepth 20000 in
theorem ggX2_isAmongEarlier_X3_same : GoodIn wsX2_isAmongEarlier wsX3_same := goodIn_r _ [4] (by decide +kernel) (by decide +kernel)
set_option maxRecDepth 20000 in
theorem gX2_isAmongEarlier_X3_same_n80 : GoodIn wsX2_isAmongEarlier (wsX3_same) := ggX2_isAmongEarlier_X3_same
set_option maxRecDepth 20000 in
theorem ggX2_hasNodeCovering_X3_covers : GoodIn wsX2_hasNodeCovering wsX3_covers := goodIn_r _ [5] (by decide +kernel) (by decide +kernel)
set_option maxRecDepth 20000 in
theorem gX2_hasNodeCovering_X3_covers_n76 : GoodIn wsX2_hasNodeCovering (wsX3_covers) := ggX2_hasNodeCovering_X3_covers
set_option maxRecDepth 20000 in
theorem ggX2_hasNodeEnabling_X2_hasNodeCovering : GoodIn wsX2_hasNodeEnabling wsX2_hasNodeCovering := goodIn_r _ [6, 7, 8, 9, 10, 11, 12, 13, 14, 15, 16, 17, 18, 19, 20] (by decide +kernel) (by decide +kernel)
set_option maxRecDepth 20000 in
theorem gX2_hasNodeEnabling_X2_hasNodeCovering : GoodIn wsX2_hasNodeEnabling (wsV RX2 102 RX2 yX2_hasNodeCovering wsX2_hasNodeCovering) := goodIn_app (goodIn_of _ (by decide +kernel)) ggX2_hasNodeEnabling_X2_hasNodeCovering
set_option maxRecDepth 20000 in
theorem ggX3_init_X1_init : GoodIn wsX3_init wsX1_init := goodIn_r _ [19, 20, 2, 3, 8, 21, 22, 23, 24, 50, 51, 52, 53, 54] (by decide +kernel) (by decide +kernel)
set_option maxRecDepth 20000 in
theorem gX3_init_X1_init_n9 : GoodIn wsX3_init (wsX1_init) := ggX3_init_X1_init
set_option maxRecDepth 20000 in
theorem ggX3_init_X2_init : GoodIn wsX3_init wsX2_init := goodIn_r _ [27, 28, 2, 3, 29, 8, 30, 31, 32, 33, 34, 35, 36, 59, 60, 61, 62, 63, 64, 65, 66, 67] (by decide +kernel) (by decide +kernel)
set_option maxRecDepth 20000 in
theorem gX3_init_X2_init : GoodIn wsX3_init (wsX2_init) := ggX3_init_X2_init
set_option maxRecDepth 20000 in
theorem ggX3_init_X0_init : GoodIn wsX3_init wsX0_init := goodIn_r _ [39, 40, 2, 3, 41, 8, 42, 43, 44, 45, 46, 47, 48, 49, 68, 69, 70, 71, 72, 73, 74, 75, 76] (by decide +kernel) (by decide +kernel)
set_option maxRecDepth 20000 in
theorem gX3_init_X0_init : GoodIn wsX3_init (wsX0_init) := ggX3_init_X0_init
set_option maxRecDepth 20000 in
theorem ggX3_place_X3_needRange : GoodIn wsX3_place wsX3_needRange := goodIn_ca (goodIn_r _ [7, 8, 9] (by decide +kernel) (by decide +kernel)) (goodIn_sub (fun _ h => List.mem_cons_of_mem _ (List.mem_append_right _ h)) (by decide +kernel))
set_option maxRecDepth 20000 in
theorem gX3_place_X3_needRange : GoodIn wsX3_place (va_wsS RX3 36 yX3_needRange wsX3_needRange) := goodIn_app (goodIn_of _ (by decide +kernel)) ggX3_place_X3_needRange
set_option maxRecDepth 20000 in
theorem ggX3_place_X3_discard : GoodIn wsX3_place wsX3_discard := goodIn_r _ [13, 14, 15, 23, 24, 25, 26, 32, 33, 34, 35, 36, 37, 38, 39, 40, 41, 42, 43, 44, 45, 46, 47, 48, 49] (by decide +kernel) (by decide +kernel)
set_option maxRecDepth 20000 in
theorem gX3_place_X3_discard : GoodIn wsX3_place (wsV RX3 51 RX3 yX3_discard wsX3_discard) := goodIn_app (goodIn_of _ (by decide +kernel)) ggX3_place_X3_discard
set_option maxRecDepth 20000 in
theorem ggX3_place_X1_addPlace : GoodIn wsX3_place wsX1_addPlace := goodIn_r _ [20, 21, 22, 27, 28, 29, 30, 31] (by decide +kernel) (by decide +kernel)
set_option maxRecDepth 20000 in
theorem gX3_place_X1_addPlace : GoodIn wsX3_place (wsV RX3 54 RX1 yX1_addPlace wsX1_addPlace) := goodIn_app (goodIn_of _ (by decide +kernel)) ggX3_place_X1_addPlace
set_option maxRecDepth 20000 in
theorem ggX3_transition_X3_discard : GoodIn wsX3_transition wsX3_discard := goodIn_r _ [8, 9, 10, 17, 18, 19, 20, 26, 27, 28, 29, 30, 31, 32, 33, 34, 35, 36, 37, 38, 39, 40, 41, 42, 43] (by decide +kernel) (by decide +kernel)
set_option maxRecDepth 20000 in
theorem gX3_transition_X3_discard : GoodIn wsX3_transition (wsV RX3 51 RX3 yX3_discard wsX3_discard) := goodIn_app (goodIn_of _ (by decide +kernel)) ggX3_transition_X3_discard
set_option maxRecDepth 20000 in
theorem ggX3_transition_X1_addTransition : GoodIn wsX3_transition wsX1_addTransition := goodIn_r _ [15, 16, 21, 22, 23, 24, 25] (by decide +kernel) (by decide +kernel)
set_option maxRecDepth 20000 in
theorem gX3_transition_X1_addTransition : GoodIn wsX3_transition (wsV RX3 63 RX1 yX1_addTransition wsX1_addTransition) := goodIn_app (goodIn_of _ (by decide +kernel)) ggX3_transition_X1_addTransition
set_option maxRecDepth 20000 in
theorem ggX3_arc_X3_needPlace : GoodIn wsX3_arc wsX3_needPlace := goodIn_ca (goodIn_r _ [6, 7, 8, 1, 31, 32, 33, 34, 35, 36, 37, 38, 39] (by decide +kernel) (by decide +kernel)) (goodIn_sub (fun _ h => List.mem_cons_of_mem _ (List.mem_append_left _ (List.mem_append_right _ h))) (by decide +kernel))
set_option maxRecDepth 20000 in
theorem gX3_arc_X3_needPlace : GoodIn wsX3_arc (wsV RX3 67 RX3 yX3_needPlace wsX3_needPlace) := goodIn_app (goodIn_of _ (by decide +kernel)) ggX3_arc_X3_needPlace
set_option maxRecDepth 20000 in
theorem ggX3_arc_X3_needTransition : GoodIn wsX3_arc wsX3_needTransition := goodIn_ca (goodIn_r _ [12, 7, 8, 1, 31, 32, 33, 34, 35, 36, 37, 38, 39] (by decide +kernel) (by decide +kernel)) (goodIn_sub (fun _ h => List.mem_cons_of_mem _ (List.mem_append_left _ (List.mem_append_right _ h))) (by decide +kernel))
set_option maxRecDepth 20000 in
theorem gX3_arc_X3_needTransition : GoodIn wsX3_arc (wsV RX3 71 RX3 yX3_needTransition wsX3_needTransition) := goodIn_app (goodIn_of _ (by decide +kernel)) ggX3_arc_X3_needTransition
set_option maxRecDepth 20000 in
theorem ggX3_arc_X3_needRange : GoodIn wsX3_arc wsX3_needRange := goodIn_ca (goodIn_r _ [15, 16, 17] (by decide +kernel) (by decide +kernel)) (goodIn_sub (fun _ h => List.mem_cons_of_mem _ (List.mem_append_right _ h)) (by decide +kernel))
set_option maxRecDepth 20000 in
theorem gX3_arc_X3_needRange : GoodIn wsX3_arc (va_wsS RX3 36 yX3_needRange wsX3_needRange) := goodIn_app (goodIn_of _ (by decide +kernel)) ggX3_arc_X3_needRange
set_option maxRecDepth 20000 in
theorem ggX3_arc_X3_discard : GoodIn wsX3_arc wsX3_discard := goodIn_r _ [21, 22, 23, 31, 32, 33, 34, 40, 41, 42, 43, 44, 45, 46, 47, 48, 49, 50, 51, 52, 53, 54, 55, 56, 57] (by decide +kernel) (by decide +kernel)
set_option maxRecDepth 20000 in
theorem gX3_arc_X3_discard : GoodIn wsX3_arc (wsV RX3 51 RX3 yX3_discard wsX3_discard) := goodIn_app (goodIn_of _ (by decide +kernel)) ggX3_arc_X3_discard
set_option maxRecDepth 20000 in
theorem ggX3_arc_X1_setArc : GoodIn wsX3_arc wsX1_setArc := goodIn_r _ [28, 29, 30, 35, 36, 37, 38, 39] (by decide +kernel) (by decide +kernel)
set_option maxRecDepth 20000 in
theorem gX3_arc_X1_setArc : GoodIn wsX3_arc (wsV RX3 74 RX1 yX1_setArc wsX1_setArc) := goodIn_app (goodIn_of _ (by decide +kernel)) ggX3_arc_X1_setArc
set_option maxRecDepth 20000 in
theorem ggX3_tokens_X3_needPlace : GoodIn wsX3_tokens wsX3_needPlace := goodIn_ca (goodIn_r _ [6, 7, 8, 1, 20, 21, 22, 23, 24, 25, 26, 27, 28] (by decide +kernel) (by decide +kernel)) (goodIn_sub (fun _ h => List.mem_cons_of_mem _ (List.mem_append_left _ (List.mem_append_right _ h))) (by decide +kernel))
set_option maxRecDepth 20000 in
theorem gX3_tokens_X3_needPlace : GoodIn wsX3_tokens (wsV RX3 67 RX3 yX3_needPlace wsX3_needPlace) := goodIn_app (goodIn_of _ (by decide +kernel)) ggX3_tokens_X3_needPlace
set_option maxRecDepth 20000 in
theorem ggX3_tokens_X3_needRange : GoodIn wsX3_tokens wsX3_needRange := goodIn_ca (goodIn_r _ [11, 12, 13] (by decide +kernel) (by decide +kernel)) (goodIn_sub (fun _ h => List.mem_cons_of_mem _ (List.mem_append_right _ h)) (by decide +kernel))
set_option maxRecDepth 20000 in
theorem gX3_tokens_X3_needRange : GoodIn wsX3_tokens (va_wsS RX3 36 yX3_needRange wsX3_needRange) := goodIn_app (goodIn_of _ (by decide +kernel)) ggX3_tokens_X3_needRange
set_option maxRecDepth 20000 in
theorem ggX3_tokens_X3_discard : GoodIn wsX3_tokens wsX3_discard := goodIn_r _ [17, 18, 19, 20, 21, 22, 23, 29, 30, 31, 32, 33, 34, 35, 36, 37, 38, 39, 40, 41, 42, 43, 44, 45, 46] (by decide +kernel) (by decide +kernel)
set_option maxRecDepth 20000 in
theorem gX3_tokens_X3_discard : GoodIn wsX3_tokens (wsV RX3 51 RX3 yX3_discard wsX3_discard) := goodIn_app (goodIn_of _ (by decide +kernel)) ggX3_tokens_X3_discard
set_option maxRecDepth 20000 in
theorem ggX3_explore_X3_discard : GoodIn wsX3_explore wsX3_discard := goodIn_r _ [8, 3, 9, 71, 72, 73, 74, 75, 76, 77, 78, 79, 80, 81, 82, 83, 84, 85, 86, 87, 88, 89, 90, 91, 92] (by decide +kernel) (by decide +kernel)
set_option maxRecDepth 20000 in
theorem gX3_explore_X3_discard : GoodIn wsX3_explore (wsV RX3 51 RX3 yX3_discard wsX3_discard) := goodIn_app (goodIn_of _ (by decide +kernel)) ggX3_explore_X3_discard
set_option maxRecDepth 20000 in
theorem ggX3_explore_X2_grow : GoodIn wsX3_explore wsX2_grow := goodIn_r _ [14, 15, 16, 17, 18, 19, 20, 21, 22, 23, 13, 24, 25, 26, 27, 7, 28, 29, 30, 31, 32, 33, 34, 35, 36, 37, 38, 39, 40, 41, 42, 43, 44, 45, 46, 47, 48, 49, 50, 51, 52, 53, 54, 55, 56, 57, 58, 59, 60, 61, 62, 63, 64, 65, 66, 67, 68, 69, 70, 75, 76, 77, 78, 79, 80, 81, 82, 83, 93, 94, 95, 96, 97] (by decide +kernel) (by decide +kernel)
set_option maxRecDepth 20000 in
theorem gX3_explore_X2_grow : GoodIn wsX3_explore (wsV RX3 81 RX2 yX2_grow wsX2_grow) := goodIn_app (goodIn_of _ (by decide +kernel)) ggX3_explore_X2_grow
set_option maxRecDepth 20000 in
theorem ggX3_count_X3_needTree : GoodIn wsX3_count wsX3_needTree := goodIn_ca (goodIn_r _ [6, 7, 8, 1, 24, 25, 26, 27, 28, 29, 30, 31, 32, 33, 34, 35, 36] (by decide +kernel) (by decide +kernel)) (goodIn_sub (fun _ h => List.mem_cons_of_mem _ (List.mem_append_left _ (List.mem_append_right _ h))) (by decide +kernel))
set_option maxRecDepth 20000 in
theorem gX3_count_X3_needTree : GoodIn wsX3_count (wsV RX3 93 RX3 yX3_needTree wsX3_needTree) := goodIn_app (goodIn_of _ (by decide +kernel)) ggX3_count_X3_needTree
set_option maxRecDepth 20000 in
theorem ggX3_count_X3_needNode : GoodIn wsX3_count wsX3_needNode := goodIn_ca (goodIn_r _ [12, 13, 14, 1, 24, 25, 26, 27, 28, 29, 30, 31, 32, 33, 34, 35, 36] (by decide +kernel) (by decide +kernel)) (goodIn_sub (fun _ h => List.mem_cons_of_mem _ (List.mem_append_right _ h)) (by decide +kernel))
set_option maxRecDepth 20000 in
theorem gX3_count_X3_needNode : GoodIn wsX3_count (wsV RX3 96 RX3 yX3_needNode wsX3_needNode) := goodIn_app (goodIn_of _ (by decide +kernel)) ggX3_count_X3_needNode
set_option maxRecDepth 20000 in
theorem ggX3_count_X3_needPlace : GoodIn wsX3_count wsX3_needPlace := goodIn_ca (goodIn_r _ [18, 13, 14, 19, 24, 25, 26, 27, 37, 38, 39, 40, 41] (by decide +kernel) (by decide +kernel)) (goodIn_sub (fun _ h => List.mem_cons_of_mem _ (List.mem_append_right _ h)) (by decide +kernel))
set_option maxRecDepth 20000 in
theorem gX3_count_X3_needPlace : GoodIn wsX3_count (wsV RX3 67 RX3 yX3_needPlace wsX3_needPlace) := goodIn_app (goodIn_of _ (by decide +kernel)) ggX3_count_X3_needPlace
set_option maxRecDepth 20000 in
theorem ggX3_count_X3_asTold : GoodIn wsX3_count wsX3_asTold := goodIn_r _ [22, 23] (by decide +kernel) (by decide +kernel)
set_option maxRecDepth 20000 in
theorem gX3_count_X3_asTold : GoodIn wsX3_count (va_wsS RX3 103 yX3_asTold wsX3_asTold) := goodIn_app (goodIn_of _ (by decide +kernel)) ggX3_count_X3_asTold
set_option maxRecDepth 20000 in
theorem ggX3_node_X3_needTree : GoodIn wsX3_node wsX3_needTree := goodIn_ca (goodIn_r _ [6, 7, 8, 1, 15, 16, 17, 18, 19, 20, 21, 22, 23, 24, 25, 26, 27] (by decide +kernel) (by decide +kernel)) (goodIn_sub (fun _ h => List.mem_cons_of_mem _ (List.mem_append_left _ (List.mem_append_right _ h))) (by decide +kernel))
set_option maxRecDepth 20000 in
theorem gX3_node_X3_needTree : GoodIn wsX3_node (wsV RX3 93 RX3 yX3_needTree wsX3_needTree) := goodIn_app (goodIn_of _ (by decide +kernel)) ggX3_node_X3_needTree
set_option maxRecDepth 20000 in
theorem ggX3_node_X3_needNode : GoodIn wsX3_node wsX3_needNode := goodIn_ca (goodIn_r _ [12, 13, 14, 1, 15, 16, 17, 18, 19, 20, 21, 22, 23, 24, 25, 26, 27] (by decide +kernel) (by decide +kernel)) (goodIn_sub (fun _ h => List.mem_cons_of_mem _ (List.mem_append_right _ h)) (by decide +kernel))
set_option maxRecDepth 20000 in
theorem gX3_node_X3_needNode : GoodIn wsX3_node (wsV RX3 96 RX3 yX3_needNode wsX3_needNode) := goodIn_app (goodIn_of _ (by decide +kernel)) ggX3_node_X3_needNode
set_option maxRecDepth 20000 in
theorem ggX3_bound_X3_needTree : GoodIn wsX3_bound wsX3_needTree := goodIn_ca (goodIn_r _ [6, 7, 8, 1, 31, 32, 33, 34, 35, 36, 37, 38, 39, 40, 41, 42, 43] (by decide +kernel) (by decide +kernel)) (goodIn_sub (fun _ h => List.mem_cons_of_mem _ (List.mem_append_left _ (List.mem_append_right _ h))) (by decide +kernel))
set_option maxRecDepth 20000 in
theorem gX3_bound_X3_needTree : GoodIn wsX3_bound (wsV RX3 93 RX3 yX3_needTree wsX3_needTree) := goodIn_app (goodIn_of _ (by decide +kernel)) ggX3_bound_X3_needTree
set_option maxRecDepth 20000 in
theorem ggX3_bound_X3_needPlace : GoodIn wsX3_bound wsX3_needPlace := goodIn_ca (goodIn_r _ [12, 13, 14, 15, 31, 32, 33, 34, 44, 45, 46, 47, 48] (by decide +kernel) (by decide +kernel)) (goodIn_sub (fun _ h => List.mem_cons_of_mem _ (List.mem_append_right _ h)) (by decide +kernel))
set_option maxRecDepth 20000 in
theorem gX3_bound_X3_needPlace : GoodIn wsX3_bound (wsV RX3 67 RX3 yX3_needPlace wsX3_needPlace) := goodIn_app (goodIn_of _ (by decide +kernel)) ggX3_bound_X3_needPlace
set_option maxRecDepth 20000 in
theorem ggX3_bound_X2_greatestCount : GoodIn wsX3_bound wsX2_greatestCount := goodIn_r _ [20, 21, 22, 23, 24, 25, 26, 35, 36, 37, 38, 39, 40, 41, 42, 43] (by decide +kernel) (by decide +kernel)
set_option maxRecDepth 20000 in
theorem gX3_bound_X2_greatestCount : GoodIn wsX3_bound (wsV RX3 116 RX2 yX2_greatestCount wsX2_greatestCount) := goodIn_app (goodIn_of _ (by decide +kernel)) ggX3_bound_X2_greatestCount
set_option maxRecDepth 20000 in
theorem ggX3_bound_X3_asTold : GoodIn wsX3_bound wsX3_asTold := goodIn_r _ [29, 30] (by decide +kernel) (by decide +kernel)
set_option maxRecDepth 20000 in
theorem gX3_bound_X3_asTold : GoodIn wsX3_bound (va_wsS RX3 103 yX3_asTold wsX3_asTold) := goodIn_app (goodIn_of _ (by decide +kernel)) ggX3_bound_X3_asTold
