theorem wkX6_111 : Cond.fieldLink RX6 111 "CrowdSimulator$State" "goalCells" "[I" ∈ wsL_law := inR10 _ (List.mem_of_getElem? (i := 23) rfl)
theorem wkX6_130 : Cond.fieldLink RX6 130 "CrowdSimulator$State" "goals" "[I" ∈ wsL_law := inR13 _ (List.mem_of_getElem? (i := 11) rfl)
theorem wkX6_147 : Cond.fieldLink RX6 147 "CrowdSimulator$State" "patience" "I" ∈ wsL_law := inR16 _ (List.mem_of_getElem? (i := 20) rfl)
theorem wkX6_185 : Cond.fieldLink RX6 185 "CrowdSimulator$State" "priorities" "[I" ∈ wsL_law := inR20 _ (List.mem_of_getElem? (i := 9) rfl)
theorem wkX6_188 : Cond.fieldLink RX6 188 "CrowdSimulator$State" "places" "[I" ∈ wsL_law := inR20 _ (List.mem_of_getElem? (i := 21) rfl)
theorem wkX6_197 : Cond.fieldLink RX6 197 "CrowdSimulator$State" "headings" "[I" ∈ wsL_law := inR20 _ (List.mem_of_getElem? (i := 22) rfl)
theorem wkX6_200 : Cond.fieldLink RX6 200 "CrowdSimulator$State" "waits" "[I" ∈ wsL_law := inR20 _ (List.mem_of_getElem? (i := 23) rfl)
theorem wkX6_203 : Cond.fieldLink RX6 203 "CrowdSimulator$State" "leaders" "[I" ∈ wsL_law := inR21 _ (List.mem_of_getElem? (i := 0) rfl)
theorem wkX6_242 : Cond.fieldLink RX6 242 "CrowdSimulator$State" "offsetsX" "[I" ∈ wsL_law := inR24 _ (List.mem_of_getElem? (i := 23) rfl)
theorem wkX6_245 : Cond.fieldLink RX6 245 "CrowdSimulator$State" "offsetsY" "[I" ∈ wsL_law := inR25 _ (List.mem_of_getElem? (i := 0) rfl)
theorem wkX6_267 : Cond.fieldLink RX6 267 "CrowdSimulator$State" "statistics" "[I" ∈ wsL_law := inR27 _ (List.mem_of_getElem? (i := 9) rfl)
theorem wkX6_270 : Cond.fieldLink RX6 270 "CrowdSimulator$Crowd" "state" "LCrowdSimulator$State;" ∈ wsL_law := inR31 _ (List.mem_of_getElem? (i := 11) rfl)
theorem wkX6_323 : Cond.fieldLink RX6 323 "CrowdSimulator$MapText" "costs" "[I" ∈ wsL_law := inR37 _ (List.mem_of_getElem? (i := 6) rfl)
theorem wkX6_328 : Cond.fieldLink RX6 328 "CrowdSimulator$History" "count" "I" ∈ wsL_law := inR38 _ (List.mem_of_getElem? (i := 21) rfl)
theorem wkX6_83 : Cond.fieldLink RX6 83 "CrowdSimulator$State" "costs" "[I" ∈ wsL_law := inR6 _ (List.mem_of_getElem? (i := 3) rfl)
theorem wkX6_94 : Cond.fieldLink RX6 94 "CrowdSimulator$State" "passes" "[I" ∈ wsL_law := inR10 _ (List.mem_of_getElem? (i := 9) rfl)
theorem wmX6_105 : Cond.methodLink RX6 105 yX6_requireGoal ∈ wsL_law := inR11 _ (List.mem_of_getElem? (i := 0) rfl)
theorem wmX6_114 : Cond.methodLink RX6 114 yX2_toward ∈ wsL_law := inR11 _ (List.mem_of_getElem? (i := 3) rfl)
theorem wmX6_118 : Cond.methodLink RX6 118 yX1_reachedCells ∈ wsL_law := inR11 _ (List.mem_of_getElem? (i := 19) rfl)
theorem wmX6_124 : Cond.methodLink RX6 124 yX6_requireSetGoal ∈ wsL_law := inR13 _ (List.mem_of_getElem? (i := 12) rfl)
theorem wmX6_127 : Cond.methodLink RX6 127 yX0_exists ∈ wsL_law := inR13 _ (List.mem_of_getElem? (i := 18) rfl)
theorem wmX6_133 : Cond.methodLink RX6 133 yX6_fieldOfGoal ∈ wsL_law := inR14 _ (List.mem_of_getElem? (i := 9) rfl)
theorem wmX6_137 : Cond.methodLink RX6 137 yX1_distanceOf ∈ wsL_law := inR14 _ (List.mem_of_getElem? (i := 13) rfl)
theorem wmX6_140 : Cond.methodLink RX6 140 yX1_flowOf ∈ wsL_law := inR15 _ (List.mem_of_getElem? (i := 8) rfl)
theorem wmX6_144 : Cond.methodLink RX6 144 yX1_stepsFrom ∈ wsL_law := inR16 _ (List.mem_of_getElem? (i := 4) rfl)
theorem wmX6_151 : Cond.methodLink RX6 151 yX6_isGoalOrNone ∈ wsL_law := inR17 _ (List.mem_of_getElem? (i := 8) rfl)
theorem wmX6_154 : Cond.methodLink RX6 154 yX6_isPriority ∈ wsL_law := inR17 _ (List.mem_of_getElem? (i := 11) rfl)
theorem wmX6_157 : Cond.methodLink RX6 157 yX0_isFree ∈ wsL_law := inR17 _ (List.mem_of_getElem? (i := 14) rfl)
theorem wmX6_162 : Cond.methodLink RX6 162 yX0_lowestUnused ∈ wsL_law := inR17 _ (List.mem_of_getElem? (i := 23) rfl)
theorem wmX6_167 : Cond.methodLink RX6 167 yX5_place ∈ wsL_law := inR18 _ (List.mem_of_getElem? (i := 4) rfl)
theorem wmX6_171 : Cond.methodLink RX6 171 yX6_requireAgent ∈ wsL_law := inR19 _ (List.mem_of_getElem? (i := 3) rfl)
theorem wmX6_174 : Cond.methodLink RX6 174 yX5_erase ∈ wsL_law := inR19 _ (List.mem_of_getElem? (i := 7) rfl)
theorem wmX6_191 : Cond.methodLink RX6 191 yX6_columnOf ∈ wsL_law := inR21 _ (List.mem_of_getElem? (i := 1) rfl)
theorem wmX6_194 : Cond.methodLink RX6 194 yX6_rowOf ∈ wsL_law := inR21 _ (List.mem_of_getElem? (i := 4) rfl)
theorem wmX6_206 : Cond.methodLink RX6 206 yX0_targetOf ∈ wsL_law := inR21 _ (List.mem_of_getElem? (i := 7) rfl)
theorem wmX6_209 : Cond.methodLink RX6 209 yX0_distanceLeft ∈ wsL_law := inR21 _ (List.mem_of_getElem? (i := 20) rfl)
theorem wmX6_212 : Cond.methodLink RX6 212 yX0_isSettled ∈ wsL_law := inR22 _ (List.mem_of_getElem? (i := 3) rfl)
theorem wmX6_217 : Cond.methodLink RX6 217 yX0_settledOnes ∈ wsL_law := inR23 _ (List.mem_of_getElem? (i := 6) rfl)
theorem wmX6_223 : Cond.methodLink RX6 223 yX0_leadingOnes ∈ wsL_law := inR23 _ (List.mem_of_getElem? (i := 16) rfl)
theorem wmX6_226 : Cond.methodLink RX6 226 yX0_memberOnes ∈ wsL_law := inR24 _ (List.mem_of_getElem? (i := 0) rfl)
theorem wmX6_231 : Cond.methodLink RX6 231 yX6_isOffset ∈ wsL_law := inR25 _ (List.mem_of_getElem? (i := 1) rfl)
theorem wmX6_234 : Cond.methodLink RX6 234 yX0_isLeader ∈ wsL_law := inR25 _ (List.mem_of_getElem? (i := 4) rfl)
theorem wmX6_237 : Cond.methodLink RX6 237 yX0_isMember ∈ wsL_law := inR25 _ (List.mem_of_getElem? (i := 12) rfl)
theorem wmX6_248 : Cond.methodLink RX6 248 yX0_membersOf ∈ wsL_law := inR25 _ (List.mem_of_getElem? (i := 13) rfl)
theorem wmX6_255 : Cond.methodLink RX6 255 yX6_isIn ∈ wsL_law := inR26 _ (List.mem_of_getElem? (i := 15) rfl)
theorem wmX6_259 : Cond.methodLink RX6 259 Lib.Math.abs.name ∈ wsL_law := inR26 _ (List.mem_of_getElem? (i := 12) rfl)
theorem wmX6_264 : Cond.methodLink RX6 264 yX0_passTick ∈ wsL_law := inR27 _ (List.mem_of_getElem? (i := 10) rfl)
theorem wmX6_284 : Cond.methodLink RX6 284 yX0_jamNumber ∈ wsL_law := inR33 _ (List.mem_of_getElem? (i := 19) rfl)
theorem wmX6_292 : Cond.methodLink RX6 292 yX0_sumOfWaits ∈ wsL_law := inR34 _ (List.mem_of_getElem? (i := 1) rfl)
theorem wmX6_295 : Cond.methodLink RX6 295 yX0_freeCellsAround ∈ wsL_law := inR34 _ (List.mem_of_getElem? (i := 5) rfl)
theorem wmX6_307 : Cond.methodLink RX6 307 yX4_isFull ∈ wsL_law := inR36 _ (List.mem_of_getElem? (i := 8) rfl)
theorem wmX6_313 : Cond.methodLink RX6 313 yX4_append ∈ wsL_law := inR36 _ (List.mem_of_getElem? (i := 13) rfl)
theorem wmX6_317 : Cond.methodLink RX6 317 yX4_parse ∈ wsL_law := inR37 _ (List.mem_of_getElem? (i := 7) rfl)
theorem wmX6_320 : Cond.methodLink RX6 320 yX4_empty ∈ wsL_law := inR37 _ (List.mem_of_getElem? (i := 15) rfl)
theorem wmX6_333 : Cond.methodLink RX6 333 yX3_takeBack ∈ wsL_law := inR38 _ (List.mem_of_getElem? (i := 22) rfl)
theorem wmX6_338 : Cond.methodLink RX6 338 yX3_clear ∈ wsL_law := inR39 _ (List.mem_of_getElem? (i := 22) rfl)
theorem wmX6_56 : Cond.methodLink RX6 56 yX6_requireCell ∈ wsL_law := inR6 _ (List.mem_of_getElem? (i := 4) rfl)
theorem wmX6_60 : Cond.methodLink RX6 60 yX6_requireArgument ∈ wsL_law := inR6 _ (List.mem_of_getElem? (i := 12) rfl)
theorem wmX6_64 : Cond.methodLink RX6 64 yX6_cellAt ∈ wsL_law := inR6 _ (List.mem_of_getElem? (i := 9) rfl)
theorem wmX6_68 : Cond.methodLink RX6 68 yX0_isInUse ∈ wsL_law := inR6 _ (List.mem_of_getElem? (i := 17) rfl)
theorem wmX6_79 : Cond.methodLink RX6 79 yX3_record ∈ wsL_law := inR7 _ (List.mem_of_getElem? (i := 7) rfl)
theorem wmX6_87 : Cond.methodLink RX6 87 yX2_forgetAll ∈ wsL_law := inR8 _ (List.mem_of_getElem? (i := 2) rfl)
theorem wmX6_90 : Cond.methodLink RX6 90 yX0_agentOn ∈ wsL_law := inR10 _ (List.mem_of_getElem? (i := 10) rfl)
theorem wmX6_97 : Cond.methodLink RX6 97 yX0_goalOn ∈ wsL_law := inR10 _ (List.mem_of_getElem? (i := 11) rfl)
theorem okX6_requireCell : sOkS yX6_requireCell cX6_requireCell 2 none 2 := ⟨⟨inR6 _ (List.mem_of_getElem? (i := 6) rfl), inR1 _ (List.mem_of_getElem? (i := 2) rfl), by decide +kernel⟩, inR6 _ (List.mem_of_getElem? (i := 5) rfl)⟩
theorem okX6_requireArgument : sOkS yX6_requireArgument cX6_requireArgument 1 none 1 := ⟨⟨inR6 _ (List.mem_of_getElem? (i := 14) rfl), inR1 _ (List.mem_of_getElem? (i := 2) rfl), by decide +kernel⟩, inR6 _ (List.mem_of_getElem? (i := 13) rfl)⟩
theorem okX6_setCell : sOkV yX6_setCell cX6_setCell 6 (some .int) 3 := ⟨⟨inR6 _ (List.mem_of_getElem? (i := 0) rfl), inR1 _ (List.mem_of_getElem? (i := 2) rfl), by decide +kernel⟩, inR5 _ (List.mem_of_getElem? (i := 22) rfl), inR5 _ (List.mem_of_getElem? (i := 23) rfl)⟩
theorem okX6_cell : sOkV yX6_cell cX6_cell 5 (some .int) 3 := ⟨⟨inR10 _ (List.mem_of_getElem? (i := 8) rfl), inR1 _ (List.mem_of_getElem? (i := 2) rfl), by decide +kernel⟩, inR10 _ (List.mem_of_getElem? (i := 6) rfl), inR10 _ (List.mem_of_getElem? (i := 7) rfl)⟩
theorem okX6_requireGoal : sOkS yX6_requireGoal cX6_requireGoal 1 none 1 := ⟨⟨inR11 _ (List.mem_of_getElem? (i := 2) rfl), inR1 _ (List.mem_of_getElem? (i := 2) rfl), by decide +kernel⟩, inR11 _ (List.mem_of_getElem? (i := 1) rfl)⟩
theorem okX6_setGoal : sOkV yX6_setGoal cX6_setGoal 5 (some .int) 3 := ⟨⟨inR10 _ (List.mem_of_getElem? (i := 22) rfl), inR1 _ (List.mem_of_getElem? (i := 2) rfl), by decide +kernel⟩, inR10 _ (List.mem_of_getElem? (i := 20) rfl), inR10 _ (List.mem_of_getElem? (i := 21) rfl)⟩
theorem okX6_requireSetGoal : sOkV yX6_requireSetGoal cX6_requireSetGoal 2 none 1 := ⟨⟨inR13 _ (List.mem_of_getElem? (i := 15) rfl), inR1 _ (List.mem_of_getElem? (i := 2) rfl), by decide +kernel⟩, inR13 _ (List.mem_of_getElem? (i := 13) rfl), inR13 _ (List.mem_of_getElem? (i := 14) rfl)⟩
theorem okX6_dropGoal : sOkV yX6_dropGoal cX6_dropGoal 4 (some .int) 1 := ⟨⟨inR13 _ (List.mem_of_getElem? (i := 10) rfl), inR1 _ (List.mem_of_getElem? (i := 2) rfl), by decide +kernel⟩, inR13 _ (List.mem_of_getElem? (i := 8) rfl), inR13 _ (List.mem_of_getElem? (i := 9) rfl)⟩
theorem okX6_fieldOfGoal : sOkV yX6_fieldOfGoal cX6_fieldOfGoal 4 (some (.object "CrowdSimulator$Field")) 3 := ⟨⟨inR14 _ (List.mem_of_getElem? (i := 12) rfl), inR1 _ (List.mem_of_getElem? (i := 2) rfl), by decide +kernel⟩, inR14 _ (List.mem_of_getElem? (i := 10) rfl), inR14 _ (List.mem_of_getElem? (i := 11) rfl)⟩
theorem okX6_distance : sOkV yX6_distance cX6_distance 4 (some .int) 3 := ⟨⟨inR14 _ (List.mem_of_getElem? (i := 8) rfl), inR1 _ (List.mem_of_getElem? (i := 2) rfl), by decide +kernel⟩, inR14 _ (List.mem_of_getElem? (i := 6) rfl), inR14 _ (List.mem_of_getElem? (i := 7) rfl)⟩
theorem okX6_flow : sOkV yX6_flow cX6_flow 4 (some .int) 3 := ⟨⟨inR15 _ (List.mem_of_getElem? (i := 7) rfl), inR1 _ (List.mem_of_getElem? (i := 2) rfl), by decide +kernel⟩, inR15 _ (List.mem_of_getElem? (i := 5) rfl), inR15 _ (List.mem_of_getElem? (i := 6) rfl)⟩
theorem okX6_steps : sOkV yX6_steps cX6_steps 4 (some .int) 3 := ⟨⟨inR16 _ (List.mem_of_getElem? (i := 3) rfl), inR1 _ (List.mem_of_getElem? (i := 2) rfl), by decide +kernel⟩, inR16 _ (List.mem_of_getElem? (i := 1) rfl), inR16 _ (List.mem_of_getElem? (i := 2) rfl)⟩
theorem okX6_setPatience : sOkV yX6_setPatience cX6_setPatience 3 (some .int) 1 := ⟨⟨inR16 _ (List.mem_of_getElem? (i := 19) rfl), inR1 _ (List.mem_of_getElem? (i := 2) rfl), by decide +kernel⟩, inR16 _ (List.mem_of_getElem? (i := 17) rfl), inR16 _ (List.mem_of_getElem? (i := 18) rfl)⟩
theorem okX6_add : sOkV yX6_add cX6_add 7 (some .int) 4 := ⟨⟨inR17 _ (List.mem_of_getElem? (i := 7) rfl), inR1 _ (List.mem_of_getElem? (i := 2) rfl), by decide +kernel⟩, inR17 _ (List.mem_of_getElem? (i := 5) rfl), inR17 _ (List.mem_of_getElem? (i := 6) rfl)⟩
theorem okX6_requireAgent : sOkV yX6_requireAgent cX6_requireAgent 2 none 1 := ⟨⟨inR19 _ (List.mem_of_getElem? (i := 6) rfl), inR1 _ (List.mem_of_getElem? (i := 2) rfl), by decide +kernel⟩, inR19 _ (List.mem_of_getElem? (i := 4) rfl), inR19 _ (List.mem_of_getElem? (i := 5) rfl)⟩
theorem okX6_remove : sOkV yX6_remove cX6_remove 2 (some .int) 1 := ⟨⟨inR19 _ (List.mem_of_getElem? (i := 2) rfl), inR1 _ (List.mem_of_getElem? (i := 2) rfl), by decide +kernel⟩, inR19 _ (List.mem_of_getElem? (i := 0) rfl), inR19 _ (List.mem_of_getElem? (i := 1) rfl)⟩
theorem okX6_change : sOkV yX6_change cX6_change 6 (some .int) 3 := ⟨⟨inR20 _ (List.mem_of_getElem? (i := 8) rfl), inR1 _ (List.mem_of_getElem? (i := 2) rfl), by decide +kernel⟩, inR20 _ (List.mem_of_getElem? (i := 6) rfl), inR20 _ (List.mem_of_getElem? (i := 7) rfl)⟩
theorem okX6_agent : sOkV yX6_agent cX6_agent 3 (some .int) 2 := ⟨⟨inR20 _ (List.mem_of_getElem? (i := 20) rfl), inR1 _ (List.mem_of_getElem? (i := 2) rfl), by decide +kernel⟩, inR20 _ (List.mem_of_getElem? (i := 18) rfl), inR20 _ (List.mem_of_getElem? (i := 19) rfl)⟩
theorem okX6_agents : sOkV yX6_agents cX6_agents 2 (some .int) 1 := ⟨⟨inR23 _ (List.mem_of_getElem? (i := 5) rfl), inR1 _ (List.mem_of_getElem? (i := 2) rfl), by decide +kernel⟩, inR23 _ (List.mem_of_getElem? (i := 3) rfl), inR23 _ (List.mem_of_getElem? (i := 4) rfl)⟩
theorem okX6_join : sOkV yX6_join cX6_join 5 (some .int) 4 := ⟨⟨inR24 _ (List.mem_of_getElem? (i := 22) rfl), inR1 _ (List.mem_of_getElem? (i := 2) rfl), by decide +kernel⟩, inR24 _ (List.mem_of_getElem? (i := 20) rfl), inR24 _ (List.mem_of_getElem? (i := 21) rfl)⟩
theorem okX6_leave : sOkV yX6_leave cX6_leave 3 (some .int) 1 := ⟨⟨inR26 _ (List.mem_of_getElem? (i := 0) rfl), inR1 _ (List.mem_of_getElem? (i := 2) rfl), by decide +kernel⟩, inR25 _ (List.mem_of_getElem? (i := 22) rfl), inR25 _ (List.mem_of_getElem? (i := 23) rfl)⟩
theorem okX6_disorder : sOkV yX6_disorder cX6_disorder 7 (some .int) 1 := ⟨⟨inR26 _ (List.mem_of_getElem? (i := 11) rfl), inR1 _ (List.mem_of_getElem? (i := 2) rfl), by decide +kernel⟩, inR26 _ (List.mem_of_getElem? (i := 9) rfl), inR26 _ (List.mem_of_getElem? (i := 10) rfl)⟩
theorem okX6_tick : sOkV yX6_tick cX6_tick 3 (some .int) 1 := ⟨⟨inR27 _ (List.mem_of_getElem? (i := 8) rfl), inR1 _ (List.mem_of_getElem? (i := 2) rfl), by decide +kernel⟩, inR27 _ (List.mem_of_getElem? (i := 6) rfl), inR27 _ (List.mem_of_getElem? (i := 7) rfl)⟩
theorem okX6_statistic : sOkV yX6_statistic cX6_statistic 2 (some .int) 1 := ⟨⟨inR30 _ (List.mem_of_getElem? (i := 23) rfl), inR1 _ (List.mem_of_getElem? (i := 2) rfl), by decide +kernel⟩, inR30 _ (List.mem_of_getElem? (i := 21) rfl), inR30 _ (List.mem_of_getElem? (i := 22) rfl)⟩
theorem okX6_forecast : sOkV yX6_forecast cX6_forecast 3 (some .int) 1 := ⟨⟨inR31 _ (List.mem_of_getElem? (i := 10) rfl), inR1 _ (List.mem_of_getElem? (i := 2) rfl), by decide +kernel⟩, inR31 _ (List.mem_of_getElem? (i := 8) rfl), inR31 _ (List.mem_of_getElem? (i := 9) rfl)⟩
theorem okX6_bottleneck : sOkV yX6_bottleneck cX6_bottleneck 4 (some .int) 0 := ⟨⟨inR31 _ (List.mem_of_getElem? (i := 23) rfl), inR1 _ (List.mem_of_getElem? (i := 2) rfl), by decide +kernel⟩, inR31 _ (List.mem_of_getElem? (i := 21) rfl), inR31 _ (List.mem_of_getElem? (i := 22) rfl)⟩
theorem okX6_jam : sOkV yX6_jam cX6_jam 4 (some .int) 2 := ⟨⟨inR33 _ (List.mem_of_getElem? (i := 18) rfl), inR1 _ (List.mem_of_getElem? (i := 2) rfl), by decide +kernel⟩, inR33 _ (List.mem_of_getElem? (i := 16) rfl), inR33 _ (List.mem_of_getElem? (i := 17) rfl)⟩
theorem okX6_meanDistance : sOkV yX6_meanDistance cX6_meanDistance 5 (some .double) 0 := ⟨⟨inR35 _ (List.mem_of_getElem? (i := 4) rfl), inR1 _ (List.mem_of_getElem? (i := 2) rfl), by decide +kernel⟩, inR35 _ (List.mem_of_getElem? (i := 2) rfl), inR35 _ (List.mem_of_getElem? (i := 3) rfl)⟩
theorem okX6_density : sOkV yX6_density cX6_density 3 (some .float) 0 := ⟨⟨inR35 _ (List.mem_of_getElem? (i := 20) rfl), inR1 _ (List.mem_of_getElem? (i := 2) rfl), by decide +kernel⟩, inR35 _ (List.mem_of_getElem? (i := 18) rfl), inR35 _ (List.mem_of_getElem? (i := 19) rfl)⟩
theorem okX6_feed : sOkV yX6_feed cX6_feed 2 (some .int) 1 := ⟨⟨inR36 _ (List.mem_of_getElem? (i := 7) rfl), inR1 _ (List.mem_of_getElem? (i := 2) rfl), by decide +kernel⟩, inR36 _ (List.mem_of_getElem? (i := 5) rfl), inR36 _ (List.mem_of_getElem? (i := 6) rfl)⟩
theorem okX6_readMap : sOkV yX6_readMap cX6_readMap 4 (some .int) 0 := ⟨⟨inR37 _ (List.mem_of_getElem? (i := 5) rfl), inR1 _ (List.mem_of_getElem? (i := 2) rfl), by decide +kernel⟩, inR37 _ (List.mem_of_getElem? (i := 3) rfl), inR37 _ (List.mem_of_getElem? (i := 4) rfl)⟩
theorem okX6_map : sOkV yX6_map cX6_map 4 (some .char) 1 := ⟨⟨inR38 _ (List.mem_of_getElem? (i := 9) rfl), inR1 _ (List.mem_of_getElem? (i := 2) rfl), by decide +kernel⟩, inR38 _ (List.mem_of_getElem? (i := 7) rfl), inR38 _ (List.mem_of_getElem? (i := 8) rfl)⟩
theorem okX6_undo : sOkV yX6_undo cX6_undo 1 (some .int) 0 := ⟨⟨inR38 _ (List.mem_of_getElem? (i := 20) rfl), inR1 _ (List.mem_of_getElem? (i := 2) rfl), by decide +kernel⟩, inR38 _ (List.mem_of_getElem? (i := 18) rfl), inR38 _ (List.mem_of_getElem? (i := 19) rfl)⟩
theorem okX6_restore : sOkV yX6_restore cX6_restore 1 (some .int) 0 := ⟨⟨inR39 _ (List.mem_of_getElem? (i := 21) rfl), inR1 _ (List.mem_of_getElem? (i := 2) rfl), by decide +kernel⟩, inR39 _ (List.mem_of_getElem? (i := 19) rfl), inR39 _ (List.mem_of_getElem? (i := 20) rfl)⟩
set_option maxRecDepth 100000 in
theorem sxk1 : sXk 1 "java/lang/IndexOutOfBoundsException" 287 291 := ⟨rfl, inR6 _ (List.mem_of_getElem? (i := 7) rfl), inR6 _ (List.mem_of_getElem? (i := 8) rfl), by decide +kernel, gw291, bw291, by decide +kernel⟩
set_option maxRecDepth 100000 in
theorem sxk2 : sXk 2 "java/lang/IllegalArgumentException" 100 104 := ⟨rfl, inR6 _ (List.mem_of_getElem? (i := 15) rfl), inR6 _ (List.mem_of_getElem? (i := 16) rfl), by decide +kernel, gw104, bw104, by decide +kernel⟩
set_option maxRecDepth 100000 in
theorem sxk3 : sXk 3 "java/lang/IllegalStateException" 72 76 := ⟨rfl, inR6 _ (List.mem_of_getElem? (i := 1) rfl), inR6 _ (List.mem_of_getElem? (i := 2) rfl), by decide +kernel, gw76, bw76, by decide +kernel⟩
theorem sxk4 : sXN 274 := ⟨inR13 _ (List.mem_of_getElem? (i := 16) rfl), inR13 _ (List.mem_of_getElem? (i := 17) rfl)⟩
set_option maxRecDepth 100000 in
theorem sxk5 : sXk 5 "java/lang/ArithmeticException" 300 304 := ⟨rfl, inR35 _ (List.mem_of_getElem? (i := 5) rfl), inR35 _ (List.mem_of_getElem? (i := 6) rfl), by decide +kernel, gw304, bw304, by decide +kernel⟩
