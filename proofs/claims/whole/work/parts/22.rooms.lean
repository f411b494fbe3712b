abbrev rmJ7_fill_53178 : Room := { frames := 0, cells := 0, slots := 0, locals := 0 }
abbrev rmJ9_abs_0f7a4 : Room := { frames := 0, cells := 0, slots := 0, locals := 0 }
abbrev rmJ9_floorMod_7cf53 : Room := { frames := 0, cells := 0, slots := 0, locals := 0 }
abbrev rmJ9_max_7cf53 : Room := { frames := 0, cells := 0, slots := 0, locals := 0 }
abbrev rmJ9_min_7cf53 : Room := { frames := 0, cells := 0, slots := 0, locals := 0 }
abbrev rmL_add : Room := { frames := 7, cells := 1, slots := 6, locals := 136 }
abbrev rmL_coef : Room := { frames := 7, cells := 1, slots := 6, locals := 106 }
abbrev rmL_combine : Room := { frames := 7, cells := 1, slots := 6, locals := 107 }
abbrev rmL_compile : Room := { frames := 8, cells := 1, slots := 6, locals := 179 }
abbrev rmL_explore : Room := { frames := 8, cells := 1, slots := 6, locals := 193 }
abbrev rmL_kind : Room := { frames := 8, cells := 2, slots := 12, locals := 131 }
abbrev rmL_law : Room := { frames := 9, cells := 0, slots := 0, locals := 216 }
abbrev rmL_meet : Room := { frames := 7, cells := 1, slots := 6, locals := 144 }
abbrev rmL_mod : Room := { frames := 7, cells := 1, slots := 6, locals := 106 }
abbrev rmL_output : Room := { frames := 7, cells := 1, slots := 6, locals := 112 }
abbrev rmL_recovers : Room := { frames := 8, cells := 1, slots := 6, locals := 192 }
abbrev rmL_rule : Room := { frames := 8, cells := 2, slots := 12, locals := 167 }
abbrev rmL_state : Room := { frames := 7, cells := 1, slots := 6, locals := 107 }
abbrev rmL_sum : Room := { frames := 7, cells := 1, slots := 6, locals := 105 }
abbrev rmL_sweep : Room := { frames := 8, cells := 1, slots := 6, locals := 192 }
abbrev rmL_table : Room := { frames := 8, cells := 1, slots := 6, locals := 130 }
abbrev rmL_truth : Room := { frames := 7, cells := 1, slots := 6, locals := 110 }
abbrev rmX0_afterMeeting : Room := { frames := 2, cells := 0, slots := 0, locals := 43 }
abbrev rmX0_become : Room := { frames := 1, cells := 0, slots := 0, locals := 21 }
abbrev rmX0_beginning : Room := { frames := 2, cells := 0, slots := 0, locals := 43 }
abbrev rmX0_codeOf : Room := { frames := 0, cells := 0, slots := 0, locals := 0 }
abbrev rmX0_countRules : Room := { frames := 4, cells := 0, slots := 0, locals := 94 }
abbrev rmX0_findStates : Room := { frames := 3, cells := 0, slots := 0, locals := 72 }
abbrev rmX0_firstOfRule : Room := { frames := 0, cells := 0, slots := 0, locals := 0 }
abbrev rmX0_init : Room := { frames := 1, cells := 4, slots := 777, locals := 20 }
abbrev rmX0_isRule : Room := { frames := 3, cells := 0, slots := 0, locals := 72 }
abbrev rmX0_isTrueOf : Room := { frames := 2, cells := 0, slots := 0, locals := 43 }
abbrev rmX0_learn : Room := { frames := 0, cells := 0, slots := 0, locals := 0 }
abbrev rmX0_learnBoth : Room := { frames := 1, cells := 0, slots := 0, locals := 21 }
abbrev rmX0_makeTable : Room := { frames := 5, cells := 0, slots := 0, locals := 117 }
abbrev rmX0_numberStates : Room := { frames := 0, cells := 0, slots := 0, locals := 0 }
abbrev rmX0_opinionOf : Room := { frames := 0, cells := 0, slots := 0, locals := 0 }
abbrev rmX0_reduce : Room := { frames := 1, cells := 0, slots := 0, locals := 22 }
abbrev rmX0_ruleCount : Room := { frames := 0, cells := 0, slots := 0, locals := 0 }
abbrev rmX0_ruleFact : Room := { frames := 5, cells := 0, slots := 0, locals := 118 }
abbrev rmX0_secondOfRule : Room := { frames := 4, cells := 0, slots := 0, locals := 94 }
abbrev rmX0_stateCount : Room := { frames := 0, cells := 0, slots := 0, locals := 0 }
abbrev rmX1_atAtom : Room := { frames := 0, cells := 0, slots := 0, locals := 0 }
abbrev rmX1_fact : Room := { frames := 1, cells := 0, slots := 0, locals := 20 }
abbrev rmX1_first : Room := { frames := 0, cells := 0, slots := 0, locals := 0 }
abbrev rmX1_leads : Room := { frames := 0, cells := 0, slots := 0, locals := 0 }
abbrev rmX1_leadsSomewhere : Room := { frames := 0, cells := 0, slots := 0, locals := 0 }
abbrev rmX1_of : Room := { frames := 0, cells := 0, slots := 0, locals := 0 }
abbrev rmX1_ofAtom : Room := { frames := 0, cells := 0, slots := 0, locals := 0 }
abbrev rmX1_opinion : Room := { frames := 0, cells := 0, slots := 0, locals := 0 }
abbrev rmX1_pair : Room := { frames := 0, cells := 0, slots := 0, locals := 0 }
abbrev rmX1_second : Room := { frames := 0, cells := 0, slots := 0, locals := 0 }
abbrev rmX1_value : Room := { frames := 0, cells := 0, slots := 0, locals := 0 }
abbrev rmX2_admit : Room := { frames := 4, cells := 0, slots := 0, locals := 89 }
abbrev rmX2_agent : Room := { frames := 0, cells := 0, slots := 0, locals := 0 }
abbrev rmX2_behindLastLeader : Room := { frames := 1, cells := 0, slots := 0, locals := 21 }
abbrev rmX2_bringTogether : Room := { frames := 4, cells := 0, slots := 0, locals := 98 }
abbrev rmX2_count : Room := { frames := 0, cells := 0, slots := 0, locals := 0 }
abbrev rmX2_hasAgent : Room := { frames := 0, cells := 0, slots := 0, locals := 0 }
abbrev rmX2_init : Room := { frames := 2, cells := 3, slots := 211, locals := 41 }
abbrev rmX2_isOfOneMind : Room := { frames := 5, cells := 0, slots := 0, locals := 116 }
abbrev rmX2_isQuiet : Room := { frames := 5, cells := 0, slots := 0, locals := 123 }
abbrev rmX2_letterCounts : Room := { frames := 0, cells := 0, slots := 0, locals := 0 }
abbrev rmX2_reset : Room := { frames := 1, cells := 0, slots := 0, locals := 23 }
abbrev rmX2_sweepOften : Room := { frames := 6, cells := 0, slots := 0, locals := 146 }
abbrev rmX2_sweepOnce : Room := { frames := 5, cells := 0, slots := 0, locals := 121 }
abbrev rmX3_addAtom : Room := { frames := 2, cells := 0, slots := 0, locals := 45 }
abbrev rmX3_addNode : Room := { frames := 0, cells := 0, slots := 0, locals := 0 }
abbrev rmX3_allOutputsAre : Room := { frames := 4, cells := 0, slots := 0, locals := 91 }
abbrev rmX3_atom : Room := { frames := 0, cells := 0, slots := 0, locals := 0 }
abbrev rmX3_atomCount : Room := { frames := 0, cells := 0, slots := 0, locals := 0 }
abbrev rmX3_beginning : Room := { frames := 3, cells := 0, slots := 0, locals := 65 }
abbrev rmX3_bit : Room := { frames := 0, cells := 0, slots := 0, locals := 0 }
abbrev rmX3_evaluate : Room := { frames := 2, cells := 0, slots := 0, locals := 44 }
abbrev rmX3_hasAtom : Room := { frames := 0, cells := 0, slots := 0, locals := 0 }
abbrev rmX3_hasNode : Room := { frames := 0, cells := 0, slots := 0, locals := 0 }
abbrev rmX3_hasSharedNode : Room := { frames := 0, cells := 0, slots := 0, locals := 0 }
abbrev rmX3_init : Room := { frames := 2, cells := 30, slots := 3998, locals := 40 }
abbrev rmX3_isCompiled : Room := { frames := 0, cells := 0, slots := 0, locals := 0 }
abbrev rmX3_isEmpty : Room := { frames := 0, cells := 0, slots := 0, locals := 0 }
abbrev rmX3_isTrueOf : Room := { frames := 3, cells := 0, slots := 0, locals := 67 }
abbrev rmX3_makeRules : Room := { frames := 6, cells := 0, slots := 0, locals := 137 }
abbrev rmX3_nodeTruth : Room := { frames := 1, cells := 0, slots := 0, locals := 21 }
abbrev rmX3_outputOf : Room := { frames := 3, cells := 0, slots := 0, locals := 67 }
abbrev rmX3_reset : Room := { frames := 1, cells := 0, slots := 0, locals := 23 }
abbrev rmX3_setPending : Room := { frames := 0, cells := 0, slots := 0, locals := 0 }
abbrev rmX3_takesAtom : Room := { frames := 1, cells := 0, slots := 0, locals := 20 }
abbrev rmX3_takesNode : Room := { frames := 0, cells := 0, slots := 0, locals := 0 }
abbrev rmX4_changes : Room := { frames := 3, cells := 0, slots := 0, locals := 72 }
abbrev rmX4_changesNone : Room := { frames := 4, cells := 0, slots := 0, locals := 98 }
abbrev rmX4_first : Room := { frames := 0, cells := 0, slots := 0, locals := 0 }
abbrev rmX4_init : Room := { frames := 1, cells := 0, slots := 0, locals := 20 }
abbrev rmX4_second : Room := { frames := 0, cells := 0, slots := 0, locals := 0 }
abbrev rmX5_allCanEndRight : Room := { frames := 6, cells := 0, slots := 0, locals := 147 }
abbrev rmX5_findAll : Room := { frames := 6, cells := 0, slots := 0, locals := 148 }
abbrev rmX5_init : Room := { frames := 2, cells := 5, slots := 29201, locals := 41 }
abbrev rmX5_isNext : Room := { frames := 0, cells := 0, slots := 0, locals := 0 }
abbrev rmX5_isRightEnd : Room := { frames := 5, cells := 0, slots := 0, locals := 123 }
abbrev rmX5_keepAllAfter : Room := { frames := 5, cells := 0, slots := 0, locals := 123 }
abbrev rmX5_keepNext : Room := { frames := 0, cells := 0, slots := 0, locals := 0 }
abbrev rmX5_leadsToRightEnd : Room := { frames := 5, cells := 0, slots := 0, locals := 123 }
abbrev rmX5_slotOfNext : Room := { frames := 1, cells := 0, slots := 0, locals := 22 }
abbrev rmX5_sortNext : Room := { frames := 0, cells := 0, slots := 0, locals := 0 }
abbrev rmX5_stepToNext : Room := { frames := 4, cells := 0, slots := 0, locals := 98 }
abbrev rmX6_add : Room := { frames := 6, cells := 1, slots := 6, locals := 114 }
abbrev rmX6_agree : Room := { frames := 6, cells := 0, slots := 0, locals := 136 }
abbrev rmX6_checkTable : Room := { frames := 6, cells := 1, slots := 6, locals := 84 }
abbrev rmX6_clear : Room := { frames := 2, cells := 0, slots := 0, locals := 43 }
abbrev rmX6_coef : Room := { frames := 6, cells := 1, slots := 6, locals := 84 }
abbrev rmX6_combine : Room := { frames := 6, cells := 1, slots := 6, locals := 84 }
abbrev rmX6_compile : Room := { frames := 7, cells := 1, slots := 6, locals := 159 }
abbrev rmX6_explore : Room := { frames := 7, cells := 1, slots := 6, locals := 171 }
abbrev rmX6_init : Room := { frames := 3, cells := 35, slots := 4222, locals := 62 }
abbrev rmX6_isCoefficient : Room := { frames := 0, cells := 0, slots := 0, locals := 0 }
abbrev rmX6_isFact : Room := { frames := 0, cells := 0, slots := 0, locals := 0 }
abbrev rmX6_isLetter : Room := { frames := 0, cells := 0, slots := 0, locals := 0 }
abbrev rmX6_kind : Room := { frames := 7, cells := 2, slots := 12, locals := 107 }
abbrev rmX6_meet : Room := { frames := 6, cells := 1, slots := 6, locals := 121 }
abbrev rmX6_mod : Room := { frames := 6, cells := 1, slots := 6, locals := 84 }
abbrev rmX6_output : Room := { frames := 6, cells := 1, slots := 6, locals := 91 }
abbrev rmX6_recovers : Room := { frames := 7, cells := 1, slots := 6, locals := 172 }
abbrev rmX6_rule : Room := { frames := 7, cells := 2, slots := 12, locals := 143 }
abbrev rmX6_silent : Room := { frames := 6, cells := 0, slots := 0, locals := 143 }
abbrev rmX6_size : Room := { frames := 1, cells := 0, slots := 0, locals := 20 }
abbrev rmX6_state : Room := { frames := 6, cells := 1, slots := 6, locals := 84 }
abbrev rmX6_sum : Room := { frames := 6, cells := 1, slots := 6, locals := 84 }
abbrev rmX6_sweep : Room := { frames := 7, cells := 1, slots := 6, locals := 170 }
abbrev rmX6_table : Room := { frames := 7, cells := 1, slots := 6, locals := 107 }
abbrev rmX6_truth : Room := { frames := 6, cells := 1, slots := 6, locals := 90 }
abbrev rmX7_add : Room := { frames := 2, cells := 0, slots := 0, locals := 47 }
abbrev rmX7_after : Room := { frames := 2, cells := 0, slots := 0, locals := 52 }
abbrev rmX7_agree : Room := { frames := 2, cells := 0, slots := 0, locals := 43 }
abbrev rmX7_atom : Room := { frames := 1, cells := 0, slots := 0, locals := 23 }
abbrev rmX7_clear : Room := { frames := 0, cells := 0, slots := 0, locals := 0 }
abbrev rmX7_coef : Room := { frames := 0, cells := 0, slots := 0, locals := 0 }
abbrev rmX7_combine : Room := { frames := 1, cells := 0, slots := 0, locals := 23 }
abbrev rmX7_compile : Room := { frames := 3, cells := 0, slots := 0, locals := 77 }
abbrev rmX7_explore : Room := { frames := 3, cells := 0, slots := 0, locals := 80 }
abbrev rmX7_find : Room := { frames := 0, cells := 0, slots := 0, locals := 0 }
abbrev rmX7_findRule : Room := { frames := 2, cells := 0, slots := 0, locals := 52 }
abbrev rmX7_findStates : Room := { frames := 2, cells := 0, slots := 0, locals := 52 }
abbrev rmX7_firstState : Room := { frames := 1, cells := 0, slots := 0, locals := 24 }
abbrev rmX7_formula : Room := { frames := 0, cells := 0, slots := 0, locals := 0 }
abbrev rmX7_full : Room := { frames := 0, cells := 0, slots := 0, locals := 0 }
abbrev rmX7_init : Room := { frames := 1, cells := 16, slots := 31223, locals := 20 }
abbrev rmX7_kind : Room := { frames := 2, cells := 0, slots := 0, locals := 41 }
abbrev rmX7_leadsToGood : Room := { frames := 3, cells := 0, slots := 0, locals := 80 }
abbrev rmX7_meet : Room := { frames := 3, cells := 0, slots := 0, locals := 77 }
abbrev rmX7_meeting : Room := { frames := 1, cells := 0, slots := 0, locals := 24 }
abbrev rmX7_meets : Room := { frames := 2, cells := 0, slots := 0, locals := 52 }
abbrev rmX7_mod : Room := { frames := 2, cells := 0, slots := 0, locals := 48 }
abbrev rmX7_noAgent : Room := { frames := 0, cells := 0, slots := 0, locals := 0 }
abbrev rmX7_node : Room := { frames := 0, cells := 0, slots := 0, locals := 0 }
abbrev rmX7_numberOf : Room := { frames := 0, cells := 0, slots := 0, locals := 0 }
abbrev rmX7_opinionOf : Room := { frames := 0, cells := 0, slots := 0, locals := 0 }
abbrev rmX7_output : Room := { frames := 2, cells := 0, slots := 0, locals := 43 }
abbrev rmX7_outputOf : Room := { frames := 1, cells := 0, slots := 0, locals := 21 }
abbrev rmX7_partOf : Room := { frames := 1, cells := 0, slots := 0, locals := 20 }
abbrev rmX7_recovers : Room := { frames := 4, cells := 0, slots := 0, locals := 103 }
abbrev rmX7_rightCrowd : Room := { frames := 1, cells := 0, slots := 0, locals := 22 }
abbrev rmX7_rule : Room := { frames := 3, cells := 0, slots := 0, locals := 77 }
abbrev rmX7_silent : Room := { frames := 3, cells := 0, slots := 0, locals := 77 }
abbrev rmX7_silentCrowd : Room := { frames := 3, cells := 0, slots := 0, locals := 80 }
abbrev rmX7_size : Room := { frames := 0, cells := 0, slots := 0, locals := 0 }
abbrev rmX7_sort : Room := { frames := 0, cells := 0, slots := 0, locals := 0 }
abbrev rmX7_state : Room := { frames := 2, cells := 0, slots := 0, locals := 41 }
abbrev rmX7_stateCount : Room := { frames := 0, cells := 0, slots := 0, locals := 0 }
abbrev rmX7_stateIn : Room := { frames := 0, cells := 0, slots := 0, locals := 0 }
abbrev rmX7_stateOf : Room := { frames := 0, cells := 0, slots := 0, locals := 0 }
abbrev rmX7_sum : Room := { frames := 2, cells := 0, slots := 0, locals := 48 }
abbrev rmX7_sweep : Room := { frames := 3, cells := 0, slots := 0, locals := 77 }
abbrev rmX7_table : Room := { frames := 3, cells := 0, slots := 0, locals := 77 }
abbrev rmX7_tableFault : Room := { frames := 0, cells := 0, slots := 0, locals := 0 }
abbrev rmX7_thrown : Room := { frames := 0, cells := 0, slots := 0, locals := 0 }
abbrev rmX7_truth : Room := { frames := 2, cells := 0, slots := 0, locals := 45 }
abbrev rmX7_truthNow : Room := { frames := 1, cells := 0, slots := 0, locals := 21 }
abbrev rmX7_valueOf : Room := { frames := 0, cells := 0, slots := 0, locals := 0 }
abbrev rmX6_explore0 : Room := { frames := 7, cells := 7, slots := 29215, locals := 171 }
abbrev rmL_explore0 : Room := { frames := 8, cells := 7, slots := 29215, locals := 193 }
abbrev KJ7_fill_53178 : List Value → Wd → (Option Value → Wd → Prop) → (String → Wd → Prop) → Prop := Ct yJ7_fill_53178 cJ7_fill_53178 4 none rmJ7_fill_53178
abbrev KJ9_abs_0f7a4 : List Value → Wd → (Option Value → Wd → Prop) → (String → Wd → Prop) → Prop := Ct yJ9_abs_0f7a4 cJ9_abs_0f7a4 1 (some .int) rmJ9_abs_0f7a4
abbrev KJ9_floorMod_7cf53 : List Value → Wd → (Option Value → Wd → Prop) → (String → Wd → Prop) → Prop := Ct yJ9_floorMod_7cf53 cJ9_floorMod_7cf53 3 (some .int) rmJ9_floorMod_7cf53
abbrev KJ9_max_7cf53 : List Value → Wd → (Option Value → Wd → Prop) → (String → Wd → Prop) → Prop := Ct yJ9_max_7cf53 cJ9_max_7cf53 2 (some .int) rmJ9_max_7cf53
abbrev KJ9_min_7cf53 : List Value → Wd → (Option Value → Wd → Prop) → (String → Wd → Prop) → Prop := Ct yJ9_min_7cf53 cJ9_min_7cf53 2 (some .int) rmJ9_min_7cf53
abbrev KL_add : List Value → Wd → (Option Value → Wd → Prop) → (String → Wd → Prop) → Prop := CtH yL_add cL_add 5 (some .int) [(0, 10, 13, 13), (0, 10, 17, 19)] rmL_add
abbrev KL_coef : List Value → Wd → (Option Value → Wd → Prop) → (String → Wd → Prop) → Prop := CtH yL_coef cL_coef 5 (some .int) [(0, 10, 13, 13)] rmL_coef
abbrev KL_combine : List Value → Wd → (Option Value → Wd → Prop) → (String → Wd → Prop) → Prop := CtH yL_combine cL_combine 6 (some .int) [(0, 12, 15, 13), (0, 12, 19, 19)] rmL_combine
abbrev KL_compile : List Value → Wd → (Option Value → Wd → Prop) → (String → Wd → Prop) → Prop := CtH yL_compile cL_compile 3 (some .int) [(0, 8, 11, 19)] rmL_compile
abbrev KL_explore : List Value → Wd → (Option Value → Wd → Prop) → (String → Wd → Prop) → Prop := CtH yL_explore cL_explore 4 (some .int) [(0, 9, 12, 13), (0, 9, 15, 19)] rmL_explore
abbrev KL_kind : List Value → Wd → (Option Value → Wd → Prop) → (String → Wd → Prop) → Prop := CtH yL_kind cL_kind 6 (some .int) [(0, 12, 15, 39), (0, 12, 19, 19)] rmL_kind
abbrev KL_meet : List Value → Wd → (Option Value → Wd → Prop) → (String → Wd → Prop) → Prop := CtH yL_meet cL_meet 5 (some .int) [(0, 17, 20, 13), (0, 17, 24, 39)] rmL_meet
abbrev KL_mod : List Value → Wd → (Option Value → Wd → Prop) → (String → Wd → Prop) → Prop := CtH yL_mod cL_mod 5 (some .int) [(0, 10, 13, 13), (0, 10, 17, 19)] rmL_mod
abbrev KL_output : List Value → Wd → (Option Value → Wd → Prop) → (String → Wd → Prop) → Prop := CtH yL_output cL_output 4 (some .int) [(0, 16, 19, 39)] rmL_output
abbrev KL_recovers : List Value → Wd → (Option Value → Wd → Prop) → (String → Wd → Prop) → Prop := CtH yL_recovers cL_recovers 3 (some .int) [(0, 15, 18, 19)] rmL_recovers
abbrev KL_rule : List Value → Wd → (Option Value → Wd → Prop) → (String → Wd → Prop) → Prop := CtH yL_rule cL_rule 6 (some .int) [(0, 12, 15, 39), (0, 12, 19, 19)] rmL_rule
abbrev KL_state : List Value → Wd → (Option Value → Wd → Prop) → (String → Wd → Prop) → Prop := CtH yL_state cL_state 6 (some .int) [(0, 12, 15, 39)] rmL_state
abbrev KL_sum : List Value → Wd → (Option Value → Wd → Prop) → (String → Wd → Prop) → Prop := CtH yL_sum cL_sum 4 (some .int) [(0, 9, 12, 13), (0, 9, 15, 19)] rmL_sum
abbrev KL_sweep : List Value → Wd → (Option Value → Wd → Prop) → (String → Wd → Prop) → Prop := CtH yL_sweep cL_sweep 4 (some .int) [(0, 9, 12, 13)] rmL_sweep
abbrev KL_table : List Value → Wd → (Option Value → Wd → Prop) → (String → Wd → Prop) → Prop := CtH yL_table cL_table 5 (some .int) [(0, 10, 13, 39), (0, 10, 17, 19)] rmL_table
abbrev KL_truth : List Value → Wd → (Option Value → Wd → Prop) → (String → Wd → Prop) → Prop := CtH yL_truth cL_truth 3 (some .int) [(0, 15, 18, 19)] rmL_truth
abbrev KX0_afterMeeting : List Value → Wd → (Option Value → Wd → Prop) → (String → Wd → Prop) → Prop := Ct yX0_afterMeeting cX0_afterMeeting 10 (some .int) rmX0_afterMeeting
abbrev KX0_become : List Value → Wd → (Option Value → Wd → Prop) → (String → Wd → Prop) → Prop := Ct yX0_become cX0_become 5 none rmX0_become
abbrev KX0_beginning : List Value → Wd → (Option Value → Wd → Prop) → (String → Wd → Prop) → Prop := Ct yX0_beginning cX0_beginning 3 (some .int) rmX0_beginning
abbrev KX0_codeOf : List Value → Wd → (Option Value → Wd → Prop) → (String → Wd → Prop) → Prop := Ct yX0_codeOf cX0_codeOf 2 (some .int) rmX0_codeOf
abbrev KX0_countRules : List Value → Wd → (Option Value → Wd → Prop) → (String → Wd → Prop) → Prop := Ct yX0_countRules cX0_countRules 4 none rmX0_countRules
abbrev KX0_findStates : List Value → Wd → (Option Value → Wd → Prop) → (String → Wd → Prop) → Prop := Ct yX0_findStates cX0_findStates 3 none rmX0_findStates
abbrev KX0_firstOfRule : List Value → Wd → (Option Value → Wd → Prop) → (String → Wd → Prop) → Prop := Ct yX0_firstOfRule cX0_firstOfRule 3 (some .int) rmX0_firstOfRule
abbrev KX0_init : List Value → Wd → (Option Value → Wd → Prop) → (String → Wd → Prop) → Prop := Ct yX0_init cX0_init 1 none rmX0_init
abbrev KX0_isRule : List Value → Wd → (Option Value → Wd → Prop) → (String → Wd → Prop) → Prop := Ct yX0_isRule cX0_isRule 3 (some .boolean) rmX0_isRule
abbrev KX0_isTrueOf : List Value → Wd → (Option Value → Wd → Prop) → (String → Wd → Prop) → Prop := Ct yX0_isTrueOf cX0_isTrueOf 4 (some .boolean) rmX0_isTrueOf
abbrev KX0_learn : List Value → Wd → (Option Value → Wd → Prop) → (String → Wd → Prop) → Prop := Ct yX0_learn cX0_learn 2 none rmX0_learn
abbrev KX0_learnBoth : List Value → Wd → (Option Value → Wd → Prop) → (String → Wd → Prop) → Prop := Ct yX0_learnBoth cX0_learnBoth 2 none rmX0_learnBoth
abbrev KX0_makeTable : List Value → Wd → (Option Value → Wd → Prop) → (String → Wd → Prop) → Prop := Ct yX0_makeTable cX0_makeTable 1 none rmX0_makeTable
abbrev KX0_numberStates : List Value → Wd → (Option Value → Wd → Prop) → (String → Wd → Prop) → Prop := Ct yX0_numberStates cX0_numberStates 3 none rmX0_numberStates
abbrev KX0_opinionOf : List Value → Wd → (Option Value → Wd → Prop) → (String → Wd → Prop) → Prop := Ct yX0_opinionOf cX0_opinionOf 2 (some .boolean) rmX0_opinionOf
abbrev KX0_reduce : List Value → Wd → (Option Value → Wd → Prop) → (String → Wd → Prop) → Prop := Ct yX0_reduce cX0_reduce 2 (some .int) rmX0_reduce
abbrev KX0_ruleCount : List Value → Wd → (Option Value → Wd → Prop) → (String → Wd → Prop) → Prop := Ct yX0_ruleCount cX0_ruleCount 1 (some .int) rmX0_ruleCount
abbrev KX0_ruleFact : List Value → Wd → (Option Value → Wd → Prop) → (String → Wd → Prop) → Prop := Ct yX0_ruleFact cX0_ruleFact 6 (some .int) rmX0_ruleFact
abbrev KX0_secondOfRule : List Value → Wd → (Option Value → Wd → Prop) → (String → Wd → Prop) → Prop := Ct yX0_secondOfRule cX0_secondOfRule 5 (some .int) rmX0_secondOfRule
abbrev KX0_stateCount : List Value → Wd → (Option Value → Wd → Prop) → (String → Wd → Prop) → Prop := Ct yX0_stateCount cX0_stateCount 1 (some .int) rmX0_stateCount
abbrev KX1_atAtom : List Value → Wd → (Option Value → Wd → Prop) → (String → Wd → Prop) → Prop := Ct yX1_atAtom cX1_atAtom 2 (some .long) rmX1_atAtom
abbrev KX1_fact : List Value → Wd → (Option Value → Wd → Prop) → (String → Wd → Prop) → Prop := Ct yX1_fact cX1_fact 2 (some .int) rmX1_fact
abbrev KX1_first : List Value → Wd → (Option Value → Wd → Prop) → (String → Wd → Prop) → Prop := Ct yX1_first cX1_first 1 (some .int) rmX1_first
abbrev KX1_leads : List Value → Wd → (Option Value → Wd → Prop) → (String → Wd → Prop) → Prop := Ct yX1_leads cX1_leads 1 (some .boolean) rmX1_leads
abbrev KX1_leadsSomewhere : List Value → Wd → (Option Value → Wd → Prop) → (String → Wd → Prop) → Prop := Ct yX1_leadsSomewhere cX1_leadsSomewhere 2 (some .boolean) rmX1_leadsSomewhere
abbrev KX1_of : List Value → Wd → (Option Value → Wd → Prop) → (String → Wd → Prop) → Prop := Ct yX1_of cX1_of 4 (some .int) rmX1_of
abbrev KX1_ofAtom : List Value → Wd → (Option Value → Wd → Prop) → (String → Wd → Prop) → Prop := Ct yX1_ofAtom cX1_ofAtom 3 (some .int) rmX1_ofAtom
abbrev KX1_opinion : List Value → Wd → (Option Value → Wd → Prop) → (String → Wd → Prop) → Prop := Ct yX1_opinion cX1_opinion 1 (some .int) rmX1_opinion
abbrev KX1_pair : List Value → Wd → (Option Value → Wd → Prop) → (String → Wd → Prop) → Prop := Ct yX1_pair cX1_pair 2 (some .int) rmX1_pair
abbrev KX1_second : List Value → Wd → (Option Value → Wd → Prop) → (String → Wd → Prop) → Prop := Ct yX1_second cX1_second 1 (some .int) rmX1_second
abbrev KX1_value : List Value → Wd → (Option Value → Wd → Prop) → (String → Wd → Prop) → Prop := Ct yX1_value cX1_value 1 (some .int) rmX1_value
abbrev KX2_admit : List Value → Wd → (Option Value → Wd → Prop) → (String → Wd → Prop) → Prop := Ct yX2_admit cX2_admit 6 none rmX2_admit
abbrev KX2_agent : List Value → Wd → (Option Value → Wd → Prop) → (String → Wd → Prop) → Prop := Ct yX2_agent cX2_agent 2 (some .long) rmX2_agent
abbrev KX2_behindLastLeader : List Value → Wd → (Option Value → Wd → Prop) → (String → Wd → Prop) → Prop := Ct yX2_behindLastLeader cX2_behindLastLeader 2 (some .int) rmX2_behindLastLeader
abbrev KX2_bringTogether : List Value → Wd → (Option Value → Wd → Prop) → (String → Wd → Prop) → Prop := Ct yX2_bringTogether cX2_bringTogether 4 (some .boolean) rmX2_bringTogether
abbrev KX2_count : List Value → Wd → (Option Value → Wd → Prop) → (String → Wd → Prop) → Prop := Ct yX2_count cX2_count 1 (some .int) rmX2_count
abbrev KX2_hasAgent : List Value → Wd → (Option Value → Wd → Prop) → (String → Wd → Prop) → Prop := Ct yX2_hasAgent cX2_hasAgent 2 (some .boolean) rmX2_hasAgent
abbrev KX2_init : List Value → Wd → (Option Value → Wd → Prop) → (String → Wd → Prop) → Prop := Ct yX2_init cX2_init 2 none rmX2_init
abbrev KX2_isOfOneMind : List Value → Wd → (Option Value → Wd → Prop) → (String → Wd → Prop) → Prop := Ct yX2_isOfOneMind cX2_isOfOneMind 1 (some .boolean) rmX2_isOfOneMind
abbrev KX2_isQuiet : List Value → Wd → (Option Value → Wd → Prop) → (String → Wd → Prop) → Prop := Ct yX2_isQuiet cX2_isQuiet 1 (some .boolean) rmX2_isQuiet
abbrev KX2_letterCounts : List Value → Wd → (Option Value → Wd → Prop) → (String → Wd → Prop) → Prop := Ct yX2_letterCounts cX2_letterCounts 1 (some (.array .int)) rmX2_letterCounts
abbrev KX2_reset : List Value → Wd → (Option Value → Wd → Prop) → (String → Wd → Prop) → Prop := Ct yX2_reset cX2_reset 1 none rmX2_reset
abbrev KX2_sweepOften : List Value → Wd → (Option Value → Wd → Prop) → (String → Wd → Prop) → Prop := Ct yX2_sweepOften cX2_sweepOften 5 (some .int) rmX2_sweepOften
abbrev KX2_sweepOnce : List Value → Wd → (Option Value → Wd → Prop) → (String → Wd → Prop) → Prop := Ct yX2_sweepOnce cX2_sweepOnce 6 (some .int) rmX2_sweepOnce
abbrev KX3_addAtom : List Value → Wd → (Option Value → Wd → Prop) → (String → Wd → Prop) → Prop := Ct yX3_addAtom cX3_addAtom 4 (some .int) rmX3_addAtom
abbrev KX3_addNode : List Value → Wd → (Option Value → Wd → Prop) → (String → Wd → Prop) → Prop := Ct yX3_addNode cX3_addNode 5 (some .int) rmX3_addNode
abbrev KX3_allOutputsAre : List Value → Wd → (Option Value → Wd → Prop) → (String → Wd → Prop) → Prop := Ct yX3_allOutputsAre cX3_allOutputsAre 6 (some .boolean) rmX3_allOutputsAre
abbrev KX3_atom : List Value → Wd → (Option Value → Wd → Prop) → (String → Wd → Prop) → Prop := Ct yX3_atom cX3_atom 2 (some (.object "CrowdDesk$Atom")) rmX3_atom
abbrev KX3_atomCount : List Value → Wd → (Option Value → Wd → Prop) → (String → Wd → Prop) → Prop := Ct yX3_atomCount cX3_atomCount 1 (some .int) rmX3_atomCount
abbrev KX3_beginning : List Value → Wd → (Option Value → Wd → Prop) → (String → Wd → Prop) → Prop := Ct yX3_beginning cX3_beginning 5 (some .long) rmX3_beginning
abbrev KX3_bit : List Value → Wd → (Option Value → Wd → Prop) → (String → Wd → Prop) → Prop := Ct yX3_bit cX3_bit 2 (some .int) rmX3_bit
abbrev KX3_evaluate : List Value → Wd → (Option Value → Wd → Prop) → (String → Wd → Prop) → Prop := Ct yX3_evaluate cX3_evaluate 4 (some .boolean) rmX3_evaluate
abbrev KX3_hasAtom : List Value → Wd → (Option Value → Wd → Prop) → (String → Wd → Prop) → Prop := Ct yX3_hasAtom cX3_hasAtom 2 (some .boolean) rmX3_hasAtom
abbrev KX3_hasNode : List Value → Wd → (Option Value → Wd → Prop) → (String → Wd → Prop) → Prop := Ct yX3_hasNode cX3_hasNode 2 (some .boolean) rmX3_hasNode
abbrev KX3_hasSharedNode : List Value → Wd → (Option Value → Wd → Prop) → (String → Wd → Prop) → Prop := Ct yX3_hasSharedNode cX3_hasSharedNode 5 (some .boolean) rmX3_hasSharedNode
abbrev KX3_init : List Value → Wd → (Option Value → Wd → Prop) → (String → Wd → Prop) → Prop := Ct yX3_init cX3_init 2 none rmX3_init
abbrev KX3_isCompiled : List Value → Wd → (Option Value → Wd → Prop) → (String → Wd → Prop) → Prop := Ct yX3_isCompiled cX3_isCompiled 1 (some .boolean) rmX3_isCompiled
abbrev KX3_isEmpty : List Value → Wd → (Option Value → Wd → Prop) → (String → Wd → Prop) → Prop := Ct yX3_isEmpty cX3_isEmpty 1 (some .boolean) rmX3_isEmpty
abbrev KX3_isTrueOf : List Value → Wd → (Option Value → Wd → Prop) → (String → Wd → Prop) → Prop := Ct yX3_isTrueOf cX3_isTrueOf 4 (some .boolean) rmX3_isTrueOf
abbrev KX3_makeRules : List Value → Wd → (Option Value → Wd → Prop) → (String → Wd → Prop) → Prop := Ct yX3_makeRules cX3_makeRules 3 (some .int) rmX3_makeRules
abbrev KX3_nodeTruth : List Value → Wd → (Option Value → Wd → Prop) → (String → Wd → Prop) → Prop := Ct yX3_nodeTruth cX3_nodeTruth 4 (some .int) rmX3_nodeTruth
abbrev KX3_outputOf : List Value → Wd → (Option Value → Wd → Prop) → (String → Wd → Prop) → Prop := Ct yX3_outputOf cX3_outputOf 5 (some .boolean) rmX3_outputOf
abbrev KX3_reset : List Value → Wd → (Option Value → Wd → Prop) → (String → Wd → Prop) → Prop := Ct yX3_reset cX3_reset 1 none rmX3_reset
abbrev KX3_setPending : List Value → Wd → (Option Value → Wd → Prop) → (String → Wd → Prop) → Prop := Ct yX3_setPending cX3_setPending 4 (some .int) rmX3_setPending
abbrev KX3_takesAtom : List Value → Wd → (Option Value → Wd → Prop) → (String → Wd → Prop) → Prop := Ct yX3_takesAtom cX3_takesAtom 1 (some .boolean) rmX3_takesAtom
abbrev KX3_takesNode : List Value → Wd → (Option Value → Wd → Prop) → (String → Wd → Prop) → Prop := Ct yX3_takesNode cX3_takesNode 1 (some .boolean) rmX3_takesNode
abbrev KX4_changes : List Value → Wd → (Option Value → Wd → Prop) → (String → Wd → Prop) → Prop := Ct yX4_changes cX4_changes 7 (some .boolean) rmX4_changes
abbrev KX4_changesNone : List Value → Wd → (Option Value → Wd → Prop) → (String → Wd → Prop) → Prop := Ct yX4_changesNone cX4_changesNone 6 (some .boolean) rmX4_changesNone
abbrev KX4_first : List Value → Wd → (Option Value → Wd → Prop) → (String → Wd → Prop) → Prop := Ct yX4_first cX4_first 1 (some .long) rmX4_first
abbrev KX4_init : List Value → Wd → (Option Value → Wd → Prop) → (String → Wd → Prop) → Prop := Ct yX4_init cX4_init 2 none rmX4_init
abbrev KX4_second : List Value → Wd → (Option Value → Wd → Prop) → (String → Wd → Prop) → Prop := Ct yX4_second cX4_second 1 (some .long) rmX4_second
abbrev KX5_allCanEndRight : List Value → Wd → (Option Value → Wd → Prop) → (String → Wd → Prop) → Prop := Ct yX5_allCanEndRight cX5_allCanEndRight 6 (some .boolean) rmX5_allCanEndRight
abbrev KX5_findAll : List Value → Wd → (Option Value → Wd → Prop) → (String → Wd → Prop) → Prop := Ct yX5_findAll cX5_findAll 4 (some .int) rmX5_findAll
abbrev KX5_init : List Value → Wd → (Option Value → Wd → Prop) → (String → Wd → Prop) → Prop := Ct yX5_init cX5_init 2 none rmX5_init
abbrev KX5_isNext : List Value → Wd → (Option Value → Wd → Prop) → (String → Wd → Prop) → Prop := Ct yX5_isNext cX5_isNext 3 (some .boolean) rmX5_isNext
abbrev KX5_isRightEnd : List Value → Wd → (Option Value → Wd → Prop) → (String → Wd → Prop) → Prop := Ct yX5_isRightEnd cX5_isRightEnd 4 (some .boolean) rmX5_isRightEnd
abbrev KX5_keepAllAfter : List Value → Wd → (Option Value → Wd → Prop) → (String → Wd → Prop) → Prop := Ct yX5_keepAllAfter cX5_keepAllAfter 6 (some .boolean) rmX5_keepAllAfter
abbrev KX5_keepNext : List Value → Wd → (Option Value → Wd → Prop) → (String → Wd → Prop) → Prop := Ct yX5_keepNext cX5_keepNext 3 none rmX5_keepNext
abbrev KX5_leadsToRightEnd : List Value → Wd → (Option Value → Wd → Prop) → (String → Wd → Prop) → Prop := Ct yX5_leadsToRightEnd cX5_leadsToRightEnd 5 (some .boolean) rmX5_leadsToRightEnd
abbrev KX5_slotOfNext : List Value → Wd → (Option Value → Wd → Prop) → (String → Wd → Prop) → Prop := Ct yX5_slotOfNext cX5_slotOfNext 5 (some .int) rmX5_slotOfNext
abbrev KX5_sortNext : List Value → Wd → (Option Value → Wd → Prop) → (String → Wd → Prop) → Prop := Ct yX5_sortNext cX5_sortNext 5 none rmX5_sortNext
abbrev KX5_stepToNext : List Value → Wd → (Option Value → Wd → Prop) → (String → Wd → Prop) → Prop := Ct yX5_stepToNext cX5_stepToNext 6 (some .boolean) rmX5_stepToNext
abbrev KX6_add : List Value → Wd → (Option Value → Wd → Prop) → (String → Wd → Prop) → Prop := Ct yX6_add cX6_add 3 (some .int) rmX6_add
abbrev KX6_agree : List Value → Wd → (Option Value → Wd → Prop) → (String → Wd → Prop) → Prop := Ct yX6_agree cX6_agree 1 (some .boolean) rmX6_agree
abbrev KX6_checkTable : List Value → Wd → (Option Value → Wd → Prop) → (String → Wd → Prop) → Prop := Ct yX6_checkTable cX6_checkTable 4 none rmX6_checkTable
abbrev KX6_clear : List Value → Wd → (Option Value → Wd → Prop) → (String → Wd → Prop) → Prop := Ct yX6_clear cX6_clear 1 none rmX6_clear
abbrev KX6_coef : List Value → Wd → (Option Value → Wd → Prop) → (String → Wd → Prop) → Prop := Ct yX6_coef cX6_coef 3 (some .int) rmX6_coef
abbrev KX6_combine : List Value → Wd → (Option Value → Wd → Prop) → (String → Wd → Prop) → Prop := Ct yX6_combine cX6_combine 4 (some .int) rmX6_combine
abbrev KX6_compile : List Value → Wd → (Option Value → Wd → Prop) → (String → Wd → Prop) → Prop := Ct yX6_compile cX6_compile 1 (some .int) rmX6_compile
abbrev KX6_explore : List Value → Wd → (Option Value → Wd → Prop) → (String → Wd → Prop) → Prop := Ct yX6_explore cX6_explore 3 (some .int) rmX6_explore
abbrev KX6_init : List Value → Wd → (Option Value → Wd → Prop) → (String → Wd → Prop) → Prop := Ct yX6_init cX6_init 1 none rmX6_init
abbrev KX6_isCoefficient : List Value → Wd → (Option Value → Wd → Prop) → (String → Wd → Prop) → Prop := Ct yX6_isCoefficient cX6_isCoefficient 1 (some .boolean) rmX6_isCoefficient
abbrev KX6_isFact : List Value → Wd → (Option Value → Wd → Prop) → (String → Wd → Prop) → Prop := Ct yX6_isFact cX6_isFact 2 (some .boolean) rmX6_isFact
abbrev KX6_isLetter : List Value → Wd → (Option Value → Wd → Prop) → (String → Wd → Prop) → Prop := Ct yX6_isLetter cX6_isLetter 1 (some .boolean) rmX6_isLetter
abbrev KX6_kind : List Value → Wd → (Option Value → Wd → Prop) → (String → Wd → Prop) → Prop := Ct yX6_kind cX6_kind 5 (some .int) rmX6_kind
abbrev KX6_meet : List Value → Wd → (Option Value → Wd → Prop) → (String → Wd → Prop) → Prop := Ct yX6_meet cX6_meet 4 (some .boolean) rmX6_meet
abbrev KX6_mod : List Value → Wd → (Option Value → Wd → Prop) → (String → Wd → Prop) → Prop := Ct yX6_mod cX6_mod 3 (some .int) rmX6_mod
abbrev KX6_output : List Value → Wd → (Option Value → Wd → Prop) → (String → Wd → Prop) → Prop := Ct yX6_output cX6_output 2 (some .boolean) rmX6_output
abbrev KX6_recovers : List Value → Wd → (Option Value → Wd → Prop) → (String → Wd → Prop) → Prop := Ct yX6_recovers cX6_recovers 1 (some .boolean) rmX6_recovers
abbrev KX6_rule : List Value → Wd → (Option Value → Wd → Prop) → (String → Wd → Prop) → Prop := Ct yX6_rule cX6_rule 5 (some .int) rmX6_rule
abbrev KX6_silent : List Value → Wd → (Option Value → Wd → Prop) → (String → Wd → Prop) → Prop := Ct yX6_silent cX6_silent 1 (some .boolean) rmX6_silent
abbrev KX6_size : List Value → Wd → (Option Value → Wd → Prop) → (String → Wd → Prop) → Prop := Ct yX6_size cX6_size 1 (some .int) rmX6_size
abbrev KX6_state : List Value → Wd → (Option Value → Wd → Prop) → (String → Wd → Prop) → Prop := Ct yX6_state cX6_state 4 (some .int) rmX6_state
abbrev KX6_sum : List Value → Wd → (Option Value → Wd → Prop) → (String → Wd → Prop) → Prop := Ct yX6_sum cX6_sum 2 (some .int) rmX6_sum
abbrev KX6_sweep : List Value → Wd → (Option Value → Wd → Prop) → (String → Wd → Prop) → Prop := Ct yX6_sweep cX6_sweep 3 (some .int) rmX6_sweep
abbrev KX6_table : List Value → Wd → (Option Value → Wd → Prop) → (String → Wd → Prop) → Prop := Ct yX6_table cX6_table 4 (some .int) rmX6_table
abbrev KX6_truth : List Value → Wd → (Option Value → Wd → Prop) → (String → Wd → Prop) → Prop := Ct yX6_truth cX6_truth 1 (some .boolean) rmX6_truth
abbrev KX7_add : List Value → Wd → (Option Value → Wd → Prop) → (String → Wd → Prop) → Prop := Ct yX7_add cX7_add 5 (some .int) rmX7_add
abbrev KX7_after : List Value → Wd → (Option Value → Wd → Prop) → (String → Wd → Prop) → Prop := Ct yX7_after cX7_after 9 (some .boolean) rmX7_after
abbrev KX7_agree : List Value → Wd → (Option Value → Wd → Prop) → (String → Wd → Prop) → Prop := Ct yX7_agree cX7_agree 2 (some .boolean) rmX7_agree
abbrev KX7_atom : List Value → Wd → (Option Value → Wd → Prop) → (String → Wd → Prop) → Prop := Ct yX7_atom cX7_atom 6 (some .int) rmX7_atom
abbrev KX7_clear : List Value → Wd → (Option Value → Wd → Prop) → (String → Wd → Prop) → Prop := Ct yX7_clear cX7_clear 2 none rmX7_clear
abbrev KX7_coef : List Value → Wd → (Option Value → Wd → Prop) → (String → Wd → Prop) → Prop := Ct yX7_coef cX7_coef 4 (some .int) rmX7_coef
abbrev KX7_combine : List Value → Wd → (Option Value → Wd → Prop) → (String → Wd → Prop) → Prop := Ct yX7_combine cX7_combine 5 (some .int) rmX7_combine
abbrev KX7_compile : List Value → Wd → (Option Value → Wd → Prop) → (String → Wd → Prop) → Prop := Ct yX7_compile cX7_compile 5 (some .int) rmX7_compile
abbrev KX7_explore : List Value → Wd → (Option Value → Wd → Prop) → (String → Wd → Prop) → Prop := Ct yX7_explore cX7_explore 5 (some .int) rmX7_explore
abbrev KX7_find : List Value → Wd → (Option Value → Wd → Prop) → (String → Wd → Prop) → Prop := Ct yX7_find cX7_find 8 (some .int) rmX7_find
abbrev KX7_findRule : List Value → Wd → (Option Value → Wd → Prop) → (String → Wd → Prop) → Prop := Ct yX7_findRule cX7_findRule 6 (some .int) rmX7_findRule
abbrev KX7_findStates : List Value → Wd → (Option Value → Wd → Prop) → (String → Wd → Prop) → Prop := Ct yX7_findStates cX7_findStates 6 none rmX7_findStates
abbrev KX7_firstState : List Value → Wd → (Option Value → Wd → Prop) → (String → Wd → Prop) → Prop := Ct yX7_firstState cX7_firstState 4 (some .int) rmX7_firstState
abbrev KX7_formula : List Value → Wd → (Option Value → Wd → Prop) → (String → Wd → Prop) → Prop := Ct yX7_formula cX7_formula 2 (some .boolean) rmX7_formula
abbrev KX7_full : List Value → Wd → (Option Value → Wd → Prop) → (String → Wd → Prop) → Prop := Ct yX7_full cX7_full 1 (some .boolean) rmX7_full
abbrev KX7_init : List Value → Wd → (Option Value → Wd → Prop) → (String → Wd → Prop) → Prop := Ct yX7_init cX7_init 1 none rmX7_init
abbrev KX7_kind : List Value → Wd → (Option Value → Wd → Prop) → (String → Wd → Prop) → Prop := Ct yX7_kind cX7_kind 5 (some .int) rmX7_kind
abbrev KX7_leadsToGood : List Value → Wd → (Option Value → Wd → Prop) → (String → Wd → Prop) → Prop := Ct yX7_leadsToGood cX7_leadsToGood 4 (some .boolean) rmX7_leadsToGood
abbrev KX7_meet : List Value → Wd → (Option Value → Wd → Prop) → (String → Wd → Prop) → Prop := Ct yX7_meet cX7_meet 3 (some .boolean) rmX7_meet
abbrev KX7_meeting : List Value → Wd → (Option Value → Wd → Prop) → (String → Wd → Prop) → Prop := Ct yX7_meeting cX7_meeting 9 none rmX7_meeting
abbrev KX7_meets : List Value → Wd → (Option Value → Wd → Prop) → (String → Wd → Prop) → Prop := Ct yX7_meets cX7_meets 6 (some .boolean) rmX7_meets
abbrev KX7_mod : List Value → Wd → (Option Value → Wd → Prop) → (String → Wd → Prop) → Prop := Ct yX7_mod cX7_mod 3 (some .int) rmX7_mod
abbrev KX7_noAgent : List Value → Wd → (Option Value → Wd → Prop) → (String → Wd → Prop) → Prop := Ct yX7_noAgent cX7_noAgent 2 (some .boolean) rmX7_noAgent
abbrev KX7_node : List Value → Wd → (Option Value → Wd → Prop) → (String → Wd → Prop) → Prop := Ct yX7_node cX7_node 4 (some .int) rmX7_node
abbrev KX7_numberOf : List Value → Wd → (Option Value → Wd → Prop) → (String → Wd → Prop) → Prop := Ct yX7_numberOf cX7_numberOf 5 (some .int) rmX7_numberOf
abbrev KX7_opinionOf : List Value → Wd → (Option Value → Wd → Prop) → (String → Wd → Prop) → Prop := Ct yX7_opinionOf cX7_opinionOf 3 (some .boolean) rmX7_opinionOf
abbrev KX7_output : List Value → Wd → (Option Value → Wd → Prop) → (String → Wd → Prop) → Prop := Ct yX7_output cX7_output 2 (some .boolean) rmX7_output
abbrev KX7_outputOf : List Value → Wd → (Option Value → Wd → Prop) → (String → Wd → Prop) → Prop := Ct yX7_outputOf cX7_outputOf 3 (some .boolean) rmX7_outputOf
abbrev KX7_partOf : List Value → Wd → (Option Value → Wd → Prop) → (String → Wd → Prop) → Prop := Ct yX7_partOf cX7_partOf 2 (some .int) rmX7_partOf
abbrev KX7_recovers : List Value → Wd → (Option Value → Wd → Prop) → (String → Wd → Prop) → Prop := Ct yX7_recovers cX7_recovers 4 (some .boolean) rmX7_recovers
abbrev KX7_rightCrowd : List Value → Wd → (Option Value → Wd → Prop) → (String → Wd → Prop) → Prop := Ct yX7_rightCrowd cX7_rightCrowd 5 (some .boolean) rmX7_rightCrowd
abbrev KX7_rule : List Value → Wd → (Option Value → Wd → Prop) → (String → Wd → Prop) → Prop := Ct yX7_rule cX7_rule 5 (some .int) rmX7_rule
abbrev KX7_silent : List Value → Wd → (Option Value → Wd → Prop) → (String → Wd → Prop) → Prop := Ct yX7_silent cX7_silent 3 (some .boolean) rmX7_silent
abbrev KX7_silentCrowd : List Value → Wd → (Option Value → Wd → Prop) → (String → Wd → Prop) → Prop := Ct yX7_silentCrowd cX7_silentCrowd 4 (some .boolean) rmX7_silentCrowd
abbrev KX7_size : List Value → Wd → (Option Value → Wd → Prop) → (String → Wd → Prop) → Prop := Ct yX7_size cX7_size 1 (some .int) rmX7_size
abbrev KX7_sort : List Value → Wd → (Option Value → Wd → Prop) → (String → Wd → Prop) → Prop := Ct yX7_sort cX7_sort 5 none rmX7_sort
abbrev KX7_state : List Value → Wd → (Option Value → Wd → Prop) → (String → Wd → Prop) → Prop := Ct yX7_state cX7_state 4 (some .int) rmX7_state
abbrev KX7_stateCount : List Value → Wd → (Option Value → Wd → Prop) → (String → Wd → Prop) → Prop := Ct yX7_stateCount cX7_stateCount 4 (some .int) rmX7_stateCount
abbrev KX7_stateIn : List Value → Wd → (Option Value → Wd → Prop) → (String → Wd → Prop) → Prop := Ct yX7_stateIn cX7_stateIn 3 (some .int) rmX7_stateIn
abbrev KX7_stateOf : List Value → Wd → (Option Value → Wd → Prop) → (String → Wd → Prop) → Prop := Ct yX7_stateOf cX7_stateOf 5 (some .int) rmX7_stateOf
abbrev KX7_sum : List Value → Wd → (Option Value → Wd → Prop) → (String → Wd → Prop) → Prop := Ct yX7_sum cX7_sum 2 (some .int) rmX7_sum
abbrev KX7_sweep : List Value → Wd → (Option Value → Wd → Prop) → (String → Wd → Prop) → Prop := Ct yX7_sweep cX7_sweep 7 (some .int) rmX7_sweep
abbrev KX7_table : List Value → Wd → (Option Value → Wd → Prop) → (String → Wd → Prop) → Prop := Ct yX7_table cX7_table 3 (some .int) rmX7_table
abbrev KX7_tableFault : List Value → Wd → (Option Value → Wd → Prop) → (String → Wd → Prop) → Prop := Ct yX7_tableFault cX7_tableFault 4 (some .int) rmX7_tableFault
abbrev KX7_thrown : List Value → Wd → (Option Value → Wd → Prop) → (String → Wd → Prop) → Prop := Ct yX7_thrown cX7_thrown 1 (some .int) rmX7_thrown
abbrev KX7_truth : List Value → Wd → (Option Value → Wd → Prop) → (String → Wd → Prop) → Prop := Ct yX7_truth cX7_truth 1 (some .boolean) rmX7_truth
abbrev KX7_truthNow : List Value → Wd → (Option Value → Wd → Prop) → (String → Wd → Prop) → Prop := Ct yX7_truthNow cX7_truthNow 5 (some .boolean) rmX7_truthNow
abbrev KX7_valueOf : List Value → Wd → (Option Value → Wd → Prop) → (String → Wd → Prop) → Prop := Ct yX7_valueOf cX7_valueOf 1 (some .int) rmX7_valueOf
abbrev PJ7_fill_53178 (Q : Option Value → Wd → Prop) (QX : String → Wd → Prop) : Nat → List (Option Value) → List Value → Wd → Nat → Nat → Prop := T yJ7_fill_53178 cJ7_fill_53178 4 none [] rmJ7_fill_53178 Q QX
abbrev PJ9_abs_0f7a4 (Q : Option Value → Wd → Prop) (QX : String → Wd → Prop) : Nat → List (Option Value) → List Value → Wd → Nat → Nat → Prop := T yJ9_abs_0f7a4 cJ9_abs_0f7a4 1 (some .int) [] rmJ9_abs_0f7a4 Q QX
abbrev PJ9_floorMod_7cf53 (Q : Option Value → Wd → Prop) (QX : String → Wd → Prop) : Nat → List (Option Value) → List Value → Wd → Nat → Nat → Prop := T yJ9_floorMod_7cf53 cJ9_floorMod_7cf53 3 (some .int) [] rmJ9_floorMod_7cf53 Q QX
abbrev PJ9_max_7cf53 (Q : Option Value → Wd → Prop) (QX : String → Wd → Prop) : Nat → List (Option Value) → List Value → Wd → Nat → Nat → Prop := T yJ9_max_7cf53 cJ9_max_7cf53 2 (some .int) [] rmJ9_max_7cf53 Q QX
abbrev PJ9_min_7cf53 (Q : Option Value → Wd → Prop) (QX : String → Wd → Prop) : Nat → List (Option Value) → List Value → Wd → Nat → Nat → Prop := T yJ9_min_7cf53 cJ9_min_7cf53 2 (some .int) [] rmJ9_min_7cf53 Q QX
abbrev PL_add (Q : Option Value → Wd → Prop) (QX : String → Wd → Prop) : Nat → List (Option Value) → List Value → Wd → Nat → Nat → Prop := T yL_add cL_add 5 (some .int) [(0, 10, 13, 13), (0, 10, 17, 19)] rmL_add Q QX
abbrev PL_coef (Q : Option Value → Wd → Prop) (QX : String → Wd → Prop) : Nat → List (Option Value) → List Value → Wd → Nat → Nat → Prop := T yL_coef cL_coef 5 (some .int) [(0, 10, 13, 13)] rmL_coef Q QX
abbrev PL_combine (Q : Option Value → Wd → Prop) (QX : String → Wd → Prop) : Nat → List (Option Value) → List Value → Wd → Nat → Nat → Prop := T yL_combine cL_combine 6 (some .int) [(0, 12, 15, 13), (0, 12, 19, 19)] rmL_combine Q QX
abbrev PL_compile (Q : Option Value → Wd → Prop) (QX : String → Wd → Prop) : Nat → List (Option Value) → List Value → Wd → Nat → Nat → Prop := T yL_compile cL_compile 3 (some .int) [(0, 8, 11, 19)] rmL_compile Q QX
abbrev PL_explore (Q : Option Value → Wd → Prop) (QX : String → Wd → Prop) : Nat → List (Option Value) → List Value → Wd → Nat → Nat → Prop := T yL_explore cL_explore 4 (some .int) [(0, 9, 12, 13), (0, 9, 15, 19)] rmL_explore Q QX
abbrev PL_kind (Q : Option Value → Wd → Prop) (QX : String → Wd → Prop) : Nat → List (Option Value) → List Value → Wd → Nat → Nat → Prop := T yL_kind cL_kind 6 (some .int) [(0, 12, 15, 39), (0, 12, 19, 19)] rmL_kind Q QX
abbrev PL_meet (Q : Option Value → Wd → Prop) (QX : String → Wd → Prop) : Nat → List (Option Value) → List Value → Wd → Nat → Nat → Prop := T yL_meet cL_meet 5 (some .int) [(0, 17, 20, 13), (0, 17, 24, 39)] rmL_meet Q QX
abbrev PL_mod (Q : Option Value → Wd → Prop) (QX : String → Wd → Prop) : Nat → List (Option Value) → List Value → Wd → Nat → Nat → Prop := T yL_mod cL_mod 5 (some .int) [(0, 10, 13, 13), (0, 10, 17, 19)] rmL_mod Q QX
abbrev PL_output (Q : Option Value → Wd → Prop) (QX : String → Wd → Prop) : Nat → List (Option Value) → List Value → Wd → Nat → Nat → Prop := T yL_output cL_output 4 (some .int) [(0, 16, 19, 39)] rmL_output Q QX
abbrev PL_recovers (Q : Option Value → Wd → Prop) (QX : String → Wd → Prop) : Nat → List (Option Value) → List Value → Wd → Nat → Nat → Prop := T yL_recovers cL_recovers 3 (some .int) [(0, 15, 18, 19)] rmL_recovers Q QX
abbrev PL_rule (Q : Option Value → Wd → Prop) (QX : String → Wd → Prop) : Nat → List (Option Value) → List Value → Wd → Nat → Nat → Prop := T yL_rule cL_rule 6 (some .int) [(0, 12, 15, 39), (0, 12, 19, 19)] rmL_rule Q QX
abbrev PL_state (Q : Option Value → Wd → Prop) (QX : String → Wd → Prop) : Nat → List (Option Value) → List Value → Wd → Nat → Nat → Prop := T yL_state cL_state 6 (some .int) [(0, 12, 15, 39)] rmL_state Q QX
abbrev PL_sum (Q : Option Value → Wd → Prop) (QX : String → Wd → Prop) : Nat → List (Option Value) → List Value → Wd → Nat → Nat → Prop := T yL_sum cL_sum 4 (some .int) [(0, 9, 12, 13), (0, 9, 15, 19)] rmL_sum Q QX
abbrev PL_sweep (Q : Option Value → Wd → Prop) (QX : String → Wd → Prop) : Nat → List (Option Value) → List Value → Wd → Nat → Nat → Prop := T yL_sweep cL_sweep 4 (some .int) [(0, 9, 12, 13)] rmL_sweep Q QX
abbrev PL_table (Q : Option Value → Wd → Prop) (QX : String → Wd → Prop) : Nat → List (Option Value) → List Value → Wd → Nat → Nat → Prop := T yL_table cL_table 5 (some .int) [(0, 10, 13, 39), (0, 10, 17, 19)] rmL_table Q QX
abbrev PL_truth (Q : Option Value → Wd → Prop) (QX : String → Wd → Prop) : Nat → List (Option Value) → List Value → Wd → Nat → Nat → Prop := T yL_truth cL_truth 3 (some .int) [(0, 15, 18, 19)] rmL_truth Q QX
abbrev PX0_afterMeeting (Q : Option Value → Wd → Prop) (QX : String → Wd → Prop) : Nat → List (Option Value) → List Value → Wd → Nat → Nat → Prop := T yX0_afterMeeting cX0_afterMeeting 10 (some .int) [] rmX0_afterMeeting Q QX
abbrev PX0_become (Q : Option Value → Wd → Prop) (QX : String → Wd → Prop) : Nat → List (Option Value) → List Value → Wd → Nat → Nat → Prop := T yX0_become cX0_become 5 none [] rmX0_become Q QX
abbrev PX0_beginning (Q : Option Value → Wd → Prop) (QX : String → Wd → Prop) : Nat → List (Option Value) → List Value → Wd → Nat → Nat → Prop := T yX0_beginning cX0_beginning 3 (some .int) [] rmX0_beginning Q QX
abbrev PX0_codeOf (Q : Option Value → Wd → Prop) (QX : String → Wd → Prop) : Nat → List (Option Value) → List Value → Wd → Nat → Nat → Prop := T yX0_codeOf cX0_codeOf 2 (some .int) [] rmX0_codeOf Q QX
abbrev PX0_countRules (Q : Option Value → Wd → Prop) (QX : String → Wd → Prop) : Nat → List (Option Value) → List Value → Wd → Nat → Nat → Prop := T yX0_countRules cX0_countRules 4 none [] rmX0_countRules Q QX
abbrev PX0_findStates (Q : Option Value → Wd → Prop) (QX : String → Wd → Prop) : Nat → List (Option Value) → List Value → Wd → Nat → Nat → Prop := T yX0_findStates cX0_findStates 3 none [] rmX0_findStates Q QX
abbrev PX0_firstOfRule (Q : Option Value → Wd → Prop) (QX : String → Wd → Prop) : Nat → List (Option Value) → List Value → Wd → Nat → Nat → Prop := T yX0_firstOfRule cX0_firstOfRule 3 (some .int) [] rmX0_firstOfRule Q QX
abbrev PX0_init (Q : Option Value → Wd → Prop) (QX : String → Wd → Prop) : Nat → List (Option Value) → List Value → Wd → Nat → Nat → Prop := T yX0_init cX0_init 1 none [] rmX0_init Q QX
abbrev PX0_isRule (Q : Option Value → Wd → Prop) (QX : String → Wd → Prop) : Nat → List (Option Value) → List Value → Wd → Nat → Nat → Prop := T yX0_isRule cX0_isRule 3 (some .boolean) [] rmX0_isRule Q QX
abbrev PX0_isTrueOf (Q : Option Value → Wd → Prop) (QX : String → Wd → Prop) : Nat → List (Option Value) → List Value → Wd → Nat → Nat → Prop := T yX0_isTrueOf cX0_isTrueOf 4 (some .boolean) [] rmX0_isTrueOf Q QX
abbrev PX0_learn (Q : Option Value → Wd → Prop) (QX : String → Wd → Prop) : Nat → List (Option Value) → List Value → Wd → Nat → Nat → Prop := T yX0_learn cX0_learn 2 none [] rmX0_learn Q QX
abbrev PX0_learnBoth (Q : Option Value → Wd → Prop) (QX : String → Wd → Prop) : Nat → List (Option Value) → List Value → Wd → Nat → Nat → Prop := T yX0_learnBoth cX0_learnBoth 2 none [] rmX0_learnBoth Q QX
abbrev PX0_makeTable (Q : Option Value → Wd → Prop) (QX : String → Wd → Prop) : Nat → List (Option Value) → List Value → Wd → Nat → Nat → Prop := T yX0_makeTable cX0_makeTable 1 none [] rmX0_makeTable Q QX
abbrev PX0_numberStates (Q : Option Value → Wd → Prop) (QX : String → Wd → Prop) : Nat → List (Option Value) → List Value → Wd → Nat → Nat → Prop := T yX0_numberStates cX0_numberStates 3 none [] rmX0_numberStates Q QX
abbrev PX0_opinionOf (Q : Option Value → Wd → Prop) (QX : String → Wd → Prop) : Nat → List (Option Value) → List Value → Wd → Nat → Nat → Prop := T yX0_opinionOf cX0_opinionOf 2 (some .boolean) [] rmX0_opinionOf Q QX
abbrev PX0_reduce (Q : Option Value → Wd → Prop) (QX : String → Wd → Prop) : Nat → List (Option Value) → List Value → Wd → Nat → Nat → Prop := T yX0_reduce cX0_reduce 2 (some .int) [] rmX0_reduce Q QX
abbrev PX0_ruleCount (Q : Option Value → Wd → Prop) (QX : String → Wd → Prop) : Nat → List (Option Value) → List Value → Wd → Nat → Nat → Prop := T yX0_ruleCount cX0_ruleCount 1 (some .int) [] rmX0_ruleCount Q QX
abbrev PX0_ruleFact (Q : Option Value → Wd → Prop) (QX : String → Wd → Prop) : Nat → List (Option Value) → List Value → Wd → Nat → Nat → Prop := T yX0_ruleFact cX0_ruleFact 6 (some .int) [] rmX0_ruleFact Q QX
abbrev PX0_secondOfRule (Q : Option Value → Wd → Prop) (QX : String → Wd → Prop) : Nat → List (Option Value) → List Value → Wd → Nat → Nat → Prop := T yX0_secondOfRule cX0_secondOfRule 5 (some .int) [] rmX0_secondOfRule Q QX
abbrev PX0_stateCount (Q : Option Value → Wd → Prop) (QX : String → Wd → Prop) : Nat → List (Option Value) → List Value → Wd → Nat → Nat → Prop := T yX0_stateCount cX0_stateCount 1 (some .int) [] rmX0_stateCount Q QX
abbrev PX1_atAtom (Q : Option Value → Wd → Prop) (QX : String → Wd → Prop) : Nat → List (Option Value) → List Value → Wd → Nat → Nat → Prop := T yX1_atAtom cX1_atAtom 2 (some .long) [] rmX1_atAtom Q QX
abbrev PX1_fact (Q : Option Value → Wd → Prop) (QX : String → Wd → Prop) : Nat → List (Option Value) → List Value → Wd → Nat → Nat → Prop := T yX1_fact cX1_fact 2 (some .int) [] rmX1_fact Q QX
abbrev PX1_first (Q : Option Value → Wd → Prop) (QX : String → Wd → Prop) : Nat → List (Option Value) → List Value → Wd → Nat → Nat → Prop := T yX1_first cX1_first 1 (some .int) [] rmX1_first Q QX
abbrev PX1_leads (Q : Option Value → Wd → Prop) (QX : String → Wd → Prop) : Nat → List (Option Value) → List Value → Wd → Nat → Nat → Prop := T yX1_leads cX1_leads 1 (some .boolean) [] rmX1_leads Q QX
abbrev PX1_leadsSomewhere (Q : Option Value → Wd → Prop) (QX : String → Wd → Prop) : Nat → List (Option Value) → List Value → Wd → Nat → Nat → Prop := T yX1_leadsSomewhere cX1_leadsSomewhere 2 (some .boolean) [] rmX1_leadsSomewhere Q QX
abbrev PX1_of (Q : Option Value → Wd → Prop) (QX : String → Wd → Prop) : Nat → List (Option Value) → List Value → Wd → Nat → Nat → Prop := T yX1_of cX1_of 4 (some .int) [] rmX1_of Q QX
abbrev PX1_ofAtom (Q : Option Value → Wd → Prop) (QX : String → Wd → Prop) : Nat → List (Option Value) → List Value → Wd → Nat → Nat → Prop := T yX1_ofAtom cX1_ofAtom 3 (some .int) [] rmX1_ofAtom Q QX
abbrev PX1_opinion (Q : Option Value → Wd → Prop) (QX : String → Wd → Prop) : Nat → List (Option Value) → List Value → Wd → Nat → Nat → Prop := T yX1_opinion cX1_opinion 1 (some .int) [] rmX1_opinion Q QX
abbrev PX1_pair (Q : Option Value → Wd → Prop) (QX : String → Wd → Prop) : Nat → List (Option Value) → List Value → Wd → Nat → Nat → Prop := T yX1_pair cX1_pair 2 (some .int) [] rmX1_pair Q QX
abbrev PX1_second (Q : Option Value → Wd → Prop) (QX : String → Wd → Prop) : Nat → List (Option Value) → List Value → Wd → Nat → Nat → Prop := T yX1_second cX1_second 1 (some .int) [] rmX1_second Q QX
abbrev PX1_value (Q : Option Value → Wd → Prop) (QX : String → Wd → Prop) : Nat → List (Option Value) → List Value → Wd → Nat → Nat → Prop := T yX1_value cX1_value 1 (some .int) [] rmX1_value Q QX
abbrev PX2_admit (Q : Option Value → Wd → Prop) (QX : String → Wd → Prop) : Nat → List (Option Value) → List Value → Wd → Nat → Nat → Prop := T yX2_admit cX2_admit 6 none [] rmX2_admit Q QX
abbrev PX2_agent (Q : Option Value → Wd → Prop) (QX : String → Wd → Prop) : Nat → List (Option Value) → List Value → Wd → Nat → Nat → Prop := T yX2_agent cX2_agent 2 (some .long) [] rmX2_agent Q QX
abbrev PX2_behindLastLeader (Q : Option Value → Wd → Prop) (QX : String → Wd → Prop) : Nat → List (Option Value) → List Value → Wd → Nat → Nat → Prop := T yX2_behindLastLeader cX2_behindLastLeader 2 (some .int) [] rmX2_behindLastLeader Q QX
abbrev PX2_bringTogether (Q : Option Value → Wd → Prop) (QX : String → Wd → Prop) : Nat → List (Option Value) → List Value → Wd → Nat → Nat → Prop := T yX2_bringTogether cX2_bringTogether 4 (some .boolean) [] rmX2_bringTogether Q QX
abbrev PX2_count (Q : Option Value → Wd → Prop) (QX : String → Wd → Prop) : Nat → List (Option Value) → List Value → Wd → Nat → Nat → Prop := T yX2_count cX2_count 1 (some .int) [] rmX2_count Q QX
abbrev PX2_hasAgent (Q : Option Value → Wd → Prop) (QX : String → Wd → Prop) : Nat → List (Option Value) → List Value → Wd → Nat → Nat → Prop := T yX2_hasAgent cX2_hasAgent 2 (some .boolean) [] rmX2_hasAgent Q QX
abbrev PX2_init (Q : Option Value → Wd → Prop) (QX : String → Wd → Prop) : Nat → List (Option Value) → List Value → Wd → Nat → Nat → Prop := T yX2_init cX2_init 2 none [] rmX2_init Q QX
abbrev PX2_isOfOneMind (Q : Option Value → Wd → Prop) (QX : String → Wd → Prop) : Nat → List (Option Value) → List Value → Wd → Nat → Nat → Prop := T yX2_isOfOneMind cX2_isOfOneMind 1 (some .boolean) [] rmX2_isOfOneMind Q QX
abbrev PX2_isQuiet (Q : Option Value → Wd → Prop) (QX : String → Wd → Prop) : Nat → List (Option Value) → List Value → Wd → Nat → Nat → Prop := T yX2_isQuiet cX2_isQuiet 1 (some .boolean) [] rmX2_isQuiet Q QX
abbrev PX2_letterCounts (Q : Option Value → Wd → Prop) (QX : String → Wd → Prop) : Nat → List (Option Value) → List Value → Wd → Nat → Nat → Prop := T yX2_letterCounts cX2_letterCounts 1 (some (.array .int)) [] rmX2_letterCounts Q QX
abbrev PX2_reset (Q : Option Value → Wd → Prop) (QX : String → Wd → Prop) : Nat → List (Option Value) → List Value → Wd → Nat → Nat → Prop := T yX2_reset cX2_reset 1 none [] rmX2_reset Q QX
abbrev PX2_sweepOften (Q : Option Value → Wd → Prop) (QX : String → Wd → Prop) : Nat → List (Option Value) → List Value → Wd → Nat → Nat → Prop := T yX2_sweepOften cX2_sweepOften 5 (some .int) [] rmX2_sweepOften Q QX
abbrev PX2_sweepOnce (Q : Option Value → Wd → Prop) (QX : String → Wd → Prop) : Nat → List (Option Value) → List Value → Wd → Nat → Nat → Prop := T yX2_sweepOnce cX2_sweepOnce 6 (some .int) [] rmX2_sweepOnce Q QX
abbrev PX3_addAtom (Q : Option Value → Wd → Prop) (QX : String → Wd → Prop) : Nat → List (Option Value) → List Value → Wd → Nat → Nat → Prop := T yX3_addAtom cX3_addAtom 4 (some .int) [] rmX3_addAtom Q QX
abbrev PX3_addNode (Q : Option Value → Wd → Prop) (QX : String → Wd → Prop) : Nat → List (Option Value) → List Value → Wd → Nat → Nat → Prop := T yX3_addNode cX3_addNode 5 (some .int) [] rmX3_addNode Q QX
abbrev PX3_allOutputsAre (Q : Option Value → Wd → Prop) (QX : String → Wd → Prop) : Nat → List (Option Value) → List Value → Wd → Nat → Nat → Prop := T yX3_allOutputsAre cX3_allOutputsAre 6 (some .boolean) [] rmX3_allOutputsAre Q QX
abbrev PX3_atom (Q : Option Value → Wd → Prop) (QX : String → Wd → Prop) : Nat → List (Option Value) → List Value → Wd → Nat → Nat → Prop := T yX3_atom cX3_atom 2 (some (.object "CrowdDesk$Atom")) [] rmX3_atom Q QX
abbrev PX3_atomCount (Q : Option Value → Wd → Prop) (QX : String → Wd → Prop) : Nat → List (Option Value) → List Value → Wd → Nat → Nat → Prop := T yX3_atomCount cX3_atomCount 1 (some .int) [] rmX3_atomCount Q QX
abbrev PX3_beginning (Q : Option Value → Wd → Prop) (QX : String → Wd → Prop) : Nat → List (Option Value) → List Value → Wd → Nat → Nat → Prop := T yX3_beginning cX3_beginning 5 (some .long) [] rmX3_beginning Q QX
abbrev PX3_bit (Q : Option Value → Wd → Prop) (QX : String → Wd → Prop) : Nat → List (Option Value) → List Value → Wd → Nat → Nat → Prop := T yX3_bit cX3_bit 2 (some .int) [] rmX3_bit Q QX
abbrev PX3_evaluate (Q : Option Value → Wd → Prop) (QX : String → Wd → Prop) : Nat → List (Option Value) → List Value → Wd → Nat → Nat → Prop := T yX3_evaluate cX3_evaluate 4 (some .boolean) [] rmX3_evaluate Q QX
abbrev PX3_hasAtom (Q : Option Value → Wd → Prop) (QX : String → Wd → Prop) : Nat → List (Option Value) → List Value → Wd → Nat → Nat → Prop := T yX3_hasAtom cX3_hasAtom 2 (some .boolean) [] rmX3_hasAtom Q QX
abbrev PX3_hasNode (Q : Option Value → Wd → Prop) (QX : String → Wd → Prop) : Nat → List (Option Value) → List Value → Wd → Nat → Nat → Prop := T yX3_hasNode cX3_hasNode 2 (some .boolean) [] rmX3_hasNode Q QX
abbrev PX3_hasSharedNode (Q : Option Value → Wd → Prop) (QX : String → Wd → Prop) : Nat → List (Option Value) → List Value → Wd → Nat → Nat → Prop := T yX3_hasSharedNode cX3_hasSharedNode 5 (some .boolean) [] rmX3_hasSharedNode Q QX
abbrev PX3_init (Q : Option Value → Wd → Prop) (QX : String → Wd → Prop) : Nat → List (Option Value) → List Value → Wd → Nat → Nat → Prop := T yX3_init cX3_init 2 none [] rmX3_init Q QX
abbrev PX3_isCompiled (Q : Option Value → Wd → Prop) (QX : String → Wd → Prop) : Nat → List (Option Value) → List Value → Wd → Nat → Nat → Prop := T yX3_isCompiled cX3_isCompiled 1 (some .boolean) [] rmX3_isCompiled Q QX
abbrev PX3_isEmpty (Q : Option Value → Wd → Prop) (QX : String → Wd → Prop) : Nat → List (Option Value) → List Value → Wd → Nat → Nat → Prop := T yX3_isEmpty cX3_isEmpty 1 (some .boolean) [] rmX3_isEmpty Q QX
abbrev PX3_isTrueOf (Q : Option Value → Wd → Prop) (QX : String → Wd → Prop) : Nat → List (Option Value) → List Value → Wd → Nat → Nat → Prop := T yX3_isTrueOf cX3_isTrueOf 4 (some .boolean) [] rmX3_isTrueOf Q QX
abbrev PX3_makeRules (Q : Option Value → Wd → Prop) (QX : String → Wd → Prop) : Nat → List (Option Value) → List Value → Wd → Nat → Nat → Prop := T yX3_makeRules cX3_makeRules 3 (some .int) [] rmX3_makeRules Q QX
abbrev PX3_nodeTruth (Q : Option Value → Wd → Prop) (QX : String → Wd → Prop) : Nat → List (Option Value) → List Value → Wd → Nat → Nat → Prop := T yX3_nodeTruth cX3_nodeTruth 4 (some .int) [] rmX3_nodeTruth Q QX
abbrev PX3_outputOf (Q : Option Value → Wd → Prop) (QX : String → Wd → Prop) : Nat → List (Option Value) → List Value → Wd → Nat → Nat → Prop := T yX3_outputOf cX3_outputOf 5 (some .boolean) [] rmX3_outputOf Q QX
abbrev PX3_reset (Q : Option Value → Wd → Prop) (QX : String → Wd → Prop) : Nat → List (Option Value) → List Value → Wd → Nat → Nat → Prop := T yX3_reset cX3_reset 1 none [] rmX3_reset Q QX
abbrev PX3_setPending (Q : Option Value → Wd → Prop) (QX : String → Wd → Prop) : Nat → List (Option Value) → List Value → Wd → Nat → Nat → Prop := T yX3_setPending cX3_setPending 4 (some .int) [] rmX3_setPending Q QX
abbrev PX3_takesAtom (Q : Option Value → Wd → Prop) (QX : String → Wd → Prop) : Nat → List (Option Value) → List Value → Wd → Nat → Nat → Prop := T yX3_takesAtom cX3_takesAtom 1 (some .boolean) [] rmX3_takesAtom Q QX
abbrev PX3_takesNode (Q : Option Value → Wd → Prop) (QX : String → Wd → Prop) : Nat → List (Option Value) → List Value → Wd → Nat → Nat → Prop := T yX3_takesNode cX3_takesNode 1 (some .boolean) [] rmX3_takesNode Q QX
abbrev PX4_changes (Q : Option Value → Wd → Prop) (QX : String → Wd → Prop) : Nat → List (Option Value) → List Value → Wd → Nat → Nat → Prop := T yX4_changes cX4_changes 7 (some .boolean) [] rmX4_changes Q QX
abbrev PX4_changesNone (Q : Option Value → Wd → Prop) (QX : String → Wd → Prop) : Nat → List (Option Value) → List Value → Wd → Nat → Nat → Prop := T yX4_changesNone cX4_changesNone 6 (some .boolean) [] rmX4_changesNone Q QX
abbrev PX4_first (Q : Option Value → Wd → Prop) (QX : String → Wd → Prop) : Nat → List (Option Value) → List Value → Wd → Nat → Nat → Prop := T yX4_first cX4_first 1 (some .long) [] rmX4_first Q QX
abbrev PX4_init (Q : Option Value → Wd → Prop) (QX : String → Wd → Prop) : Nat → List (Option Value) → List Value → Wd → Nat → Nat → Prop := T yX4_init cX4_init 2 none [] rmX4_init Q QX
abbrev PX4_second (Q : Option Value → Wd → Prop) (QX : String → Wd → Prop) : Nat → List (Option Value) → List Value → Wd → Nat → Nat → Prop := T yX4_second cX4_second 1 (some .long) [] rmX4_second Q QX
abbrev PX5_allCanEndRight (Q : Option Value → Wd → Prop) (QX : String → Wd → Prop) : Nat → List (Option Value) → List Value → Wd → Nat → Nat → Prop := T yX5_allCanEndRight cX5_allCanEndRight 6 (some .boolean) [] rmX5_allCanEndRight Q QX
abbrev PX5_findAll (Q : Option Value → Wd → Prop) (QX : String → Wd → Prop) : Nat → List (Option Value) → List Value → Wd → Nat → Nat → Prop := T yX5_findAll cX5_findAll 4 (some .int) [] rmX5_findAll Q QX
abbrev PX5_init (Q : Option Value → Wd → Prop) (QX : String → Wd → Prop) : Nat → List (Option Value) → List Value → Wd → Nat → Nat → Prop := T yX5_init cX5_init 2 none [] rmX5_init Q QX
abbrev PX5_isNext (Q : Option Value → Wd → Prop) (QX : String → Wd → Prop) : Nat → List (Option Value) → List Value → Wd → Nat → Nat → Prop := T yX5_isNext cX5_isNext 3 (some .boolean) [] rmX5_isNext Q QX
abbrev PX5_isRightEnd (Q : Option Value → Wd → Prop) (QX : String → Wd → Prop) : Nat → List (Option Value) → List Value → Wd → Nat → Nat → Prop := T yX5_isRightEnd cX5_isRightEnd 4 (some .boolean) [] rmX5_isRightEnd Q QX
abbrev PX5_keepAllAfter (Q : Option Value → Wd → Prop) (QX : String → Wd → Prop) : Nat → List (Option Value) → List Value → Wd → Nat → Nat → Prop := T yX5_keepAllAfter cX5_keepAllAfter 6 (some .boolean) [] rmX5_keepAllAfter Q QX
abbrev PX5_keepNext (Q : Option Value → Wd → Prop) (QX : String → Wd → Prop) : Nat → List (Option Value) → List Value → Wd → Nat → Nat → Prop := T yX5_keepNext cX5_keepNext 3 none [] rmX5_keepNext Q QX
abbrev PX5_leadsToRightEnd (Q : Option Value → Wd → Prop) (QX : String → Wd → Prop) : Nat → List (Option Value) → List Value → Wd → Nat → Nat → Prop := T yX5_leadsToRightEnd cX5_leadsToRightEnd 5 (some .boolean) [] rmX5_leadsToRightEnd Q QX
abbrev PX5_slotOfNext (Q : Option Value → Wd → Prop) (QX : String → Wd → Prop) : Nat → List (Option Value) → List Value → Wd → Nat → Nat → Prop := T yX5_slotOfNext cX5_slotOfNext 5 (some .int) [] rmX5_slotOfNext Q QX
abbrev PX5_sortNext (Q : Option Value → Wd → Prop) (QX : String → Wd → Prop) : Nat → List (Option Value) → List Value → Wd → Nat → Nat → Prop := T yX5_sortNext cX5_sortNext 5 none [] rmX5_sortNext Q QX
abbrev PX5_stepToNext (Q : Option Value → Wd → Prop) (QX : String → Wd → Prop) : Nat → List (Option Value) → List Value → Wd → Nat → Nat → Prop := T yX5_stepToNext cX5_stepToNext 6 (some .boolean) [] rmX5_stepToNext Q QX
abbrev PX6_add (Q : Option Value → Wd → Prop) (QX : String → Wd → Prop) : Nat → List (Option Value) → List Value → Wd → Nat → Nat → Prop := T yX6_add cX6_add 3 (some .int) [] rmX6_add Q QX
abbrev PX6_agree (Q : Option Value → Wd → Prop) (QX : String → Wd → Prop) : Nat → List (Option Value) → List Value → Wd → Nat → Nat → Prop := T yX6_agree cX6_agree 1 (some .boolean) [] rmX6_agree Q QX
abbrev PX6_checkTable (Q : Option Value → Wd → Prop) (QX : String → Wd → Prop) : Nat → List (Option Value) → List Value → Wd → Nat → Nat → Prop := T yX6_checkTable cX6_checkTable 4 none [] rmX6_checkTable Q QX
abbrev PX6_clear (Q : Option Value → Wd → Prop) (QX : String → Wd → Prop) : Nat → List (Option Value) → List Value → Wd → Nat → Nat → Prop := T yX6_clear cX6_clear 1 none [] rmX6_clear Q QX
abbrev PX6_coef (Q : Option Value → Wd → Prop) (QX : String → Wd → Prop) : Nat → List (Option Value) → List Value → Wd → Nat → Nat → Prop := T yX6_coef cX6_coef 3 (some .int) [] rmX6_coef Q QX
abbrev PX6_combine (Q : Option Value → Wd → Prop) (QX : String → Wd → Prop) : Nat → List (Option Value) → List Value → Wd → Nat → Nat → Prop := T yX6_combine cX6_combine 4 (some .int) [] rmX6_combine Q QX
abbrev PX6_compile (Q : Option Value → Wd → Prop) (QX : String → Wd → Prop) : Nat → List (Option Value) → List Value → Wd → Nat → Nat → Prop := T yX6_compile cX6_compile 1 (some .int) [] rmX6_compile Q QX
abbrev PX6_explore (Q : Option Value → Wd → Prop) (QX : String → Wd → Prop) : Nat → List (Option Value) → List Value → Wd → Nat → Nat → Prop := T yX6_explore cX6_explore 3 (some .int) [] rmX6_explore Q QX
abbrev PX6_init (Q : Option Value → Wd → Prop) (QX : String → Wd → Prop) : Nat → List (Option Value) → List Value → Wd → Nat → Nat → Prop := T yX6_init cX6_init 1 none [] rmX6_init Q QX
abbrev PX6_isCoefficient (Q : Option Value → Wd → Prop) (QX : String → Wd → Prop) : Nat → List (Option Value) → List Value → Wd → Nat → Nat → Prop := T yX6_isCoefficient cX6_isCoefficient 1 (some .boolean) [] rmX6_isCoefficient Q QX
abbrev PX6_isFact (Q : Option Value → Wd → Prop) (QX : String → Wd → Prop) : Nat → List (Option Value) → List Value → Wd → Nat → Nat → Prop := T yX6_isFact cX6_isFact 2 (some .boolean) [] rmX6_isFact Q QX
abbrev PX6_isLetter (Q : Option Value → Wd → Prop) (QX : String → Wd → Prop) : Nat → List (Option Value) → List Value → Wd → Nat → Nat → Prop := T yX6_isLetter cX6_isLetter 1 (some .boolean) [] rmX6_isLetter Q QX
abbrev PX6_kind (Q : Option Value → Wd → Prop) (QX : String → Wd → Prop) : Nat → List (Option Value) → List Value → Wd → Nat → Nat → Prop := T yX6_kind cX6_kind 5 (some .int) [] rmX6_kind Q QX
abbrev PX6_meet (Q : Option Value → Wd → Prop) (QX : String → Wd → Prop) : Nat → List (Option Value) → List Value → Wd → Nat → Nat → Prop := T yX6_meet cX6_meet 4 (some .boolean) [] rmX6_meet Q QX
abbrev PX6_mod (Q : Option Value → Wd → Prop) (QX : String → Wd → Prop) : Nat → List (Option Value) → List Value → Wd → Nat → Nat → Prop := T yX6_mod cX6_mod 3 (some .int) [] rmX6_mod Q QX
abbrev PX6_output (Q : Option Value → Wd → Prop) (QX : String → Wd → Prop) : Nat → List (Option Value) → List Value → Wd → Nat → Nat → Prop := T yX6_output cX6_output 2 (some .boolean) [] rmX6_output Q QX
abbrev PX6_recovers (Q : Option Value → Wd → Prop) (QX : String → Wd → Prop) : Nat → List (Option Value) → List Value → Wd → Nat → Nat → Prop := T yX6_recovers cX6_recovers 1 (some .boolean) [] rmX6_recovers Q QX
abbrev PX6_rule (Q : Option Value → Wd → Prop) (QX : String → Wd → Prop) : Nat → List (Option Value) → List Value → Wd → Nat → Nat → Prop := T yX6_rule cX6_rule 5 (some .int) [] rmX6_rule Q QX
abbrev PX6_silent (Q : Option Value → Wd → Prop) (QX : String → Wd → Prop) : Nat → List (Option Value) → List Value → Wd → Nat → Nat → Prop := T yX6_silent cX6_silent 1 (some .boolean) [] rmX6_silent Q QX
abbrev PX6_size (Q : Option Value → Wd → Prop) (QX : String → Wd → Prop) : Nat → List (Option Value) → List Value → Wd → Nat → Nat → Prop := T yX6_size cX6_size 1 (some .int) [] rmX6_size Q QX
abbrev PX6_state (Q : Option Value → Wd → Prop) (QX : String → Wd → Prop) : Nat → List (Option Value) → List Value → Wd → Nat → Nat → Prop := T yX6_state cX6_state 4 (some .int) [] rmX6_state Q QX
abbrev PX6_sum (Q : Option Value → Wd → Prop) (QX : String → Wd → Prop) : Nat → List (Option Value) → List Value → Wd → Nat → Nat → Prop := T yX6_sum cX6_sum 2 (some .int) [] rmX6_sum Q QX
abbrev PX6_sweep (Q : Option Value → Wd → Prop) (QX : String → Wd → Prop) : Nat → List (Option Value) → List Value → Wd → Nat → Nat → Prop := T yX6_sweep cX6_sweep 3 (some .int) [] rmX6_sweep Q QX
abbrev PX6_table (Q : Option Value → Wd → Prop) (QX : String → Wd → Prop) : Nat → List (Option Value) → List Value → Wd → Nat → Nat → Prop := T yX6_table cX6_table 4 (some .int) [] rmX6_table Q QX
abbrev PX6_truth (Q : Option Value → Wd → Prop) (QX : String → Wd → Prop) : Nat → List (Option Value) → List Value → Wd → Nat → Nat → Prop := T yX6_truth cX6_truth 1 (some .boolean) [] rmX6_truth Q QX
abbrev PX7_add (Q : Option Value → Wd → Prop) (QX : String → Wd → Prop) : Nat → List (Option Value) → List Value → Wd → Nat → Nat → Prop := T yX7_add cX7_add 5 (some .int) [] rmX7_add Q QX
abbrev PX7_after (Q : Option Value → Wd → Prop) (QX : String → Wd → Prop) : Nat → List (Option Value) → List Value → Wd → Nat → Nat → Prop := T yX7_after cX7_after 9 (some .boolean) [] rmX7_after Q QX
abbrev PX7_agree (Q : Option Value → Wd → Prop) (QX : String → Wd → Prop) : Nat → List (Option Value) → List Value → Wd → Nat → Nat → Prop := T yX7_agree cX7_agree 2 (some .boolean) [] rmX7_agree Q QX
abbrev PX7_atom (Q : Option Value → Wd → Prop) (QX : String → Wd → Prop) : Nat → List (Option Value) → List Value → Wd → Nat → Nat → Prop := T yX7_atom cX7_atom 6 (some .int) [] rmX7_atom Q QX
abbrev PX7_clear (Q : Option Value → Wd → Prop) (QX : String → Wd → Prop) : Nat → List (Option Value) → List Value → Wd → Nat → Nat → Prop := T yX7_clear cX7_clear 2 none [] rmX7_clear Q QX
abbrev PX7_coef (Q : Option Value → Wd → Prop) (QX : String → Wd → Prop) : Nat → List (Option Value) → List Value → Wd → Nat → Nat → Prop := T yX7_coef cX7_coef 4 (some .int) [] rmX7_coef Q QX
abbrev PX7_combine (Q : Option Value → Wd → Prop) (QX : String → Wd → Prop) : Nat → List (Option Value) → List Value → Wd → Nat → Nat → Prop := T yX7_combine cX7_combine 5 (some .int) [] rmX7_combine Q QX
abbrev PX7_compile (Q : Option Value → Wd → Prop) (QX : String → Wd → Prop) : Nat → List (Option Value) → List Value → Wd → Nat → Nat → Prop := T yX7_compile cX7_compile 5 (some .int) [] rmX7_compile Q QX
abbrev PX7_explore (Q : Option Value → Wd → Prop) (QX : String → Wd → Prop) : Nat → List (Option Value) → List Value → Wd → Nat → Nat → Prop := T yX7_explore cX7_explore 5 (some .int) [] rmX7_explore Q QX
abbrev PX7_find (Q : Option Value → Wd → Prop) (QX : String → Wd → Prop) : Nat → List (Option Value) → List Value → Wd → Nat → Nat → Prop := T yX7_find cX7_find 8 (some .int) [] rmX7_find Q QX
abbrev PX7_findRule (Q : Option Value → Wd → Prop) (QX : String → Wd → Prop) : Nat → List (Option Value) → List Value → Wd → Nat → Nat → Prop := T yX7_findRule cX7_findRule 6 (some .int) [] rmX7_findRule Q QX
abbrev PX7_findStates (Q : Option Value → Wd → Prop) (QX : String → Wd → Prop) : Nat → List (Option Value) → List Value → Wd → Nat → Nat → Prop := T yX7_findStates cX7_findStates 6 none [] rmX7_findStates Q QX
abbrev PX7_firstState (Q : Option Value → Wd → Prop) (QX : String → Wd → Prop) : Nat → List (Option Value) → List Value → Wd → Nat → Nat → Prop := T yX7_firstState cX7_firstState 4 (some .int) [] rmX7_firstState Q QX
abbrev PX7_formula (Q : Option Value → Wd → Prop) (QX : String → Wd → Prop) : Nat → List (Option Value) → List Value → Wd → Nat → Nat → Prop := T yX7_formula cX7_formula 2 (some .boolean) [] rmX7_formula Q QX
abbrev PX7_full (Q : Option Value → Wd → Prop) (QX : String → Wd → Prop) : Nat → List (Option Value) → List Value → Wd → Nat → Nat → Prop := T yX7_full cX7_full 1 (some .boolean) [] rmX7_full Q QX
abbrev PX7_init (Q : Option Value → Wd → Prop) (QX : String → Wd → Prop) : Nat → List (Option Value) → List Value → Wd → Nat → Nat → Prop := T yX7_init cX7_init 1 none [] rmX7_init Q QX
abbrev PX7_kind (Q : Option Value → Wd → Prop) (QX : String → Wd → Prop) : Nat → List (Option Value) → List Value → Wd → Nat → Nat → Prop := T yX7_kind cX7_kind 5 (some .int) [] rmX7_kind Q QX
abbrev PX7_leadsToGood (Q : Option Value → Wd → Prop) (QX : String → Wd → Prop) : Nat → List (Option Value) → List Value → Wd → Nat → Nat → Prop := T yX7_leadsToGood cX7_leadsToGood 4 (some .boolean) [] rmX7_leadsToGood Q QX
abbrev PX7_meet (Q : Option Value → Wd → Prop) (QX : String → Wd → Prop) : Nat → List (Option Value) → List Value → Wd → Nat → Nat → Prop := T yX7_meet cX7_meet 3 (some .boolean) [] rmX7_meet Q QX
abbrev PX7_meeting (Q : Option Value → Wd → Prop) (QX : String → Wd → Prop) : Nat → List (Option Value) → List Value → Wd → Nat → Nat → Prop := T yX7_meeting cX7_meeting 9 none [] rmX7_meeting Q QX
abbrev PX7_meets (Q : Option Value → Wd → Prop) (QX : String → Wd → Prop) : Nat → List (Option Value) → List Value → Wd → Nat → Nat → Prop := T yX7_meets cX7_meets 6 (some .boolean) [] rmX7_meets Q QX
abbrev PX7_mod (Q : Option Value → Wd → Prop) (QX : String → Wd → Prop) : Nat → List (Option Value) → List Value → Wd → Nat → Nat → Prop := T yX7_mod cX7_mod 3 (some .int) [] rmX7_mod Q QX
abbrev PX7_noAgent (Q : Option Value → Wd → Prop) (QX : String → Wd → Prop) : Nat → List (Option Value) → List Value → Wd → Nat → Nat → Prop := T yX7_noAgent cX7_noAgent 2 (some .boolean) [] rmX7_noAgent Q QX
abbrev PX7_node (Q : Option Value → Wd → Prop) (QX : String → Wd → Prop) : Nat → List (Option Value) → List Value → Wd → Nat → Nat → Prop := T yX7_node cX7_node 4 (some .int) [] rmX7_node Q QX
abbrev PX7_numberOf (Q : Option Value → Wd → Prop) (QX : String → Wd → Prop) : Nat → List (Option Value) → List Value → Wd → Nat → Nat → Prop := T yX7_numberOf cX7_numberOf 5 (some .int) [] rmX7_numberOf Q QX
abbrev PX7_opinionOf (Q : Option Value → Wd → Prop) (QX : String → Wd → Prop) : Nat → List (Option Value) → List Value → Wd → Nat → Nat → Prop := T yX7_opinionOf cX7_opinionOf 3 (some .boolean) [] rmX7_opinionOf Q QX
abbrev PX7_output (Q : Option Value → Wd → Prop) (QX : String → Wd → Prop) : Nat → List (Option Value) → List Value → Wd → Nat → Nat → Prop := T yX7_output cX7_output 2 (some .boolean) [] rmX7_output Q QX
abbrev PX7_outputOf (Q : Option Value → Wd → Prop) (QX : String → Wd → Prop) : Nat → List (Option Value) → List Value → Wd → Nat → Nat → Prop := T yX7_outputOf cX7_outputOf 3 (some .boolean) [] rmX7_outputOf Q QX
abbrev PX7_partOf (Q : Option Value → Wd → Prop) (QX : String → Wd → Prop) : Nat → List (Option Value) → List Value → Wd → Nat → Nat → Prop := T yX7_partOf cX7_partOf 2 (some .int) [] rmX7_partOf Q QX
abbrev PX7_recovers (Q : Option Value → Wd → Prop) (QX : String → Wd → Prop) : Nat → List (Option Value) → List Value → Wd → Nat → Nat → Prop := T yX7_recovers cX7_recovers 4 (some .boolean) [] rmX7_recovers Q QX
abbrev PX7_rightCrowd (Q : Option Value → Wd → Prop) (QX : String → Wd → Prop) : Nat → List (Option Value) → List Value → Wd → Nat → Nat → Prop := T yX7_rightCrowd cX7_rightCrowd 5 (some .boolean) [] rmX7_rightCrowd Q QX
abbrev PX7_rule (Q : Option Value → Wd → Prop) (QX : String → Wd → Prop) : Nat → List (Option Value) → List Value → Wd → Nat → Nat → Prop := T yX7_rule cX7_rule 5 (some .int) [] rmX7_rule Q QX
abbrev PX7_silent (Q : Option Value → Wd → Prop) (QX : String → Wd → Prop) : Nat → List (Option Value) → List Value → Wd → Nat → Nat → Prop := T yX7_silent cX7_silent 3 (some .boolean) [] rmX7_silent Q QX
abbrev PX7_silentCrowd (Q : Option Value → Wd → Prop) (QX : String → Wd → Prop) : Nat → List (Option Value) → List Value → Wd → Nat → Nat → Prop := T yX7_silentCrowd cX7_silentCrowd 4 (some .boolean) [] rmX7_silentCrowd Q QX
abbrev PX7_size (Q : Option Value → Wd → Prop) (QX : String → Wd → Prop) : Nat → List (Option Value) → List Value → Wd → Nat → Nat → Prop := T yX7_size cX7_size 1 (some .int) [] rmX7_size Q QX
abbrev PX7_sort (Q : Option Value → Wd → Prop) (QX : String → Wd → Prop) : Nat → List (Option Value) → List Value → Wd → Nat → Nat → Prop := T yX7_sort cX7_sort 5 none [] rmX7_sort Q QX
abbrev PX7_state (Q : Option Value → Wd → Prop) (QX : String → Wd → Prop) : Nat → List (Option Value) → List Value → Wd → Nat → Nat → Prop := T yX7_state cX7_state 4 (some .int) [] rmX7_state Q QX
abbrev PX7_stateCount (Q : Option Value → Wd → Prop) (QX : String → Wd → Prop) : Nat → List (Option Value) → List Value → Wd → Nat → Nat → Prop := T yX7_stateCount cX7_stateCount 4 (some .int) [] rmX7_stateCount Q QX
abbrev PX7_stateIn (Q : Option Value → Wd → Prop) (QX : String → Wd → Prop) : Nat → List (Option Value) → List Value → Wd → Nat → Nat → Prop := T yX7_stateIn cX7_stateIn 3 (some .int) [] rmX7_stateIn Q QX
abbrev PX7_stateOf (Q : Option Value → Wd → Prop) (QX : String → Wd → Prop) : Nat → List (Option Value) → List Value → Wd → Nat → Nat → Prop := T yX7_stateOf cX7_stateOf 5 (some .int) [] rmX7_stateOf Q QX
abbrev PX7_sum (Q : Option Value → Wd → Prop) (QX : String → Wd → Prop) : Nat → List (Option Value) → List Value → Wd → Nat → Nat → Prop := T yX7_sum cX7_sum 2 (some .int) [] rmX7_sum Q QX
abbrev PX7_sweep (Q : Option Value → Wd → Prop) (QX : String → Wd → Prop) : Nat → List (Option Value) → List Value → Wd → Nat → Nat → Prop := T yX7_sweep cX7_sweep 7 (some .int) [] rmX7_sweep Q QX
abbrev PX7_table (Q : Option Value → Wd → Prop) (QX : String → Wd → Prop) : Nat → List (Option Value) → List Value → Wd → Nat → Nat → Prop := T yX7_table cX7_table 3 (some .int) [] rmX7_table Q QX
abbrev PX7_tableFault (Q : Option Value → Wd → Prop) (QX : String → Wd → Prop) : Nat → List (Option Value) → List Value → Wd → Nat → Nat → Prop := T yX7_tableFault cX7_tableFault 4 (some .int) [] rmX7_tableFault Q QX
abbrev PX7_thrown (Q : Option Value → Wd → Prop) (QX : String → Wd → Prop) : Nat → List (Option Value) → List Value → Wd → Nat → Nat → Prop := T yX7_thrown cX7_thrown 1 (some .int) [] rmX7_thrown Q QX
abbrev PX7_truth (Q : Option Value → Wd → Prop) (QX : String → Wd → Prop) : Nat → List (Option Value) → List Value → Wd → Nat → Nat → Prop := T yX7_truth cX7_truth 1 (some .boolean) [] rmX7_truth Q QX
abbrev PX7_truthNow (Q : Option Value → Wd → Prop) (QX : String → Wd → Prop) : Nat → List (Option Value) → List Value → Wd → Nat → Nat → Prop := T yX7_truthNow cX7_truthNow 5 (some .boolean) [] rmX7_truthNow Q QX
abbrev PX7_valueOf (Q : Option Value → Wd → Prop) (QX : String → Wd → Prop) : Nat → List (Option Value) → List Value → Wd → Nat → Nat → Prop := T yX7_valueOf cX7_valueOf 1 (some .int) [] rmX7_valueOf Q QX
