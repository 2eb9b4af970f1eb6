/-! words of the tables that the walks name -/
theorem waci : Cond.initialized "java/lang/System" ∈ wsL_law := inR8 _ (List.mem_of_getElem? (i := 1) rfl)
theorem wacn : Cond.native arraycopyName ∈ wsL_law := inR7 _ (List.mem_of_getElem? (i := 23) rfl)
theorem wacs : Cond.static arraycopyName ∈ wsL_law := inR8 _ (List.mem_of_getElem? (i := 0) rfl)
theorem wcd_abs : Cond.code Lib.Math.abs.name Lib.Math.abs.code 1 (some .int) ∈ wsL_law := inR26 _ (List.mem_of_getElem? (i := 14) rfl)
theorem wcd_max : Cond.code Lib.Math.max.name Lib.Math.max.code 2 (some .int) ∈ wsL_law := inR35 _ (List.mem_of_getElem? (i := 13) rfl)
theorem wcnJ6_265 : Cond.constant RJ6 265 (1431655765) ∈ wsL_law := inR19 _ (List.mem_of_getElem? (i := 19) rfl)
theorem wcnJ6_266 : Cond.constant RJ6 266 (858993459) ∈ wsL_law := inR19 _ (List.mem_of_getElem? (i := 20) rfl)
theorem wcnJ6_267 : Cond.constant RJ6 267 (252645135) ∈ wsL_law := inR19 _ (List.mem_of_getElem? (i := 21) rfl)
theorem wini_math : Cond.initialized "java/lang/Math" ∈ wsL_law := inR7 _ (List.mem_of_getElem? (i := 15) rfl)
theorem wkX0_141 : Cond.fieldLink RX0 141 "CrowdSimulator$State" "passes" "[I" ∈ wsL_law := inR28 _ (List.mem_of_getElem? (i := 15) rfl)
theorem wkX0_148 : Cond.fieldLink RX0 148 "CrowdSimulator$State" "patience" "I" ∈ wsL_law := inR29 _ (List.mem_of_getElem? (i := 0) rfl)
theorem wkX0_19 : Cond.fieldLink RX0 19 "CrowdSimulator$State" "places" "[I" ∈ wsL_law := inR7 _ (List.mem_of_getElem? (i := 1) rfl)
theorem wkX0_29 : Cond.fieldLink RX0 29 "CrowdSimulator$State" "goalCells" "[I" ∈ wsL_law := inR7 _ (List.mem_of_getElem? (i := 6) rfl)
theorem wkX0_42 : Cond.fieldLink RX0 42 "CrowdSimulator$State" "costs" "[I" ∈ wsL_law := inR17 _ (List.mem_of_getElem? (i := 22) rfl)
theorem wkX0_45 : Cond.fieldLink RX0 45 "CrowdSimulator$State" "leaders" "[I" ∈ wsL_law := inR21 _ (List.mem_of_getElem? (i := 11) rfl)
theorem wkX0_55 : Cond.fieldLink RX0 55 "CrowdSimulator$State" "goals" "[I" ∈ wsL_law := inR21 _ (List.mem_of_getElem? (i := 12) rfl)
theorem wkX0_58 : Cond.fieldLink RX0 58 "CrowdSimulator$State" "offsetsX" "[I" ∈ wsL_law := inR21 _ (List.mem_of_getElem? (i := 17) rfl)
theorem wkX0_61 : Cond.fieldLink RX0 61 "CrowdSimulator$State" "offsetsY" "[I" ∈ wsL_law := inR21 _ (List.mem_of_getElem? (i := 18) rfl)
theorem wkX0_70 : Cond.fieldLink RX0 70 "CrowdSimulator$State" "headings" "[I" ∈ wsL_law := inR21 _ (List.mem_of_getElem? (i := 19) rfl)
theorem wkX0_9 : Cond.fieldLink RX0 9 "CrowdSimulator$Crowd" "state" "LCrowdSimulator$State;" ∈ wsL_law := inR4 _ (List.mem_of_getElem? (i := 8) rfl)
theorem wkX0_93 : Cond.fieldLink RX0 93 "CrowdSimulator$State" "waits" "[I" ∈ wsL_law := inR23 _ (List.mem_of_getElem? (i := 15) rfl)
theorem wkX0_99 : Cond.fieldLink RX0 99 "CrowdSimulator$State" "statistics" "[I" ∈ wsL_law := inR27 _ (List.mem_of_getElem? (i := 14) rfl)
theorem wkX1_9 : Cond.fieldLink RX1 9 "CrowdSimulator$Field" "distances" "[I" ∈ wsL_law := inR4 _ (List.mem_of_getElem? (i := 1) rfl)
theorem wkX2_11 : Cond.fieldLink RX2 11 "CrowdSimulator$Fields" "byTarget" "[LCrowdSimulator$Field;" ∈ wsL_law := inR3 _ (List.mem_of_getElem? (i := 15) rfl)
theorem wkX2_22 : Cond.fieldLink RX2 22 "CrowdSimulator$Fields" "firstInBucket" "[I" ∈ wsL_law := inR3 _ (List.mem_of_getElem? (i := 19) rfl)
theorem wkX2_26 : Cond.fieldLink RX2 26 "CrowdSimulator$Fields" "nextInBucket" "[I" ∈ wsL_law := inR3 _ (List.mem_of_getElem? (i := 20) rfl)
theorem wkX3_26 : Cond.fieldLink RX3 26 "CrowdSimulator$History" "count" "I" ∈ wsL_law := inR7 _ (List.mem_of_getElem? (i := 12) rfl)
theorem wkX4_15 : Cond.fieldLink RX4 15 "CrowdSimulator$MapText" "costs" "[I" ∈ wsL_law := inR4 _ (List.mem_of_getElem? (i := 20) rfl)
theorem wkX4_19 : Cond.fieldLink RX4 19 "CrowdSimulator$MapText" "length" "I" ∈ wsL_law := inR36 _ (List.mem_of_getElem? (i := 12) rfl)
theorem wkX4_9 : Cond.fieldLink RX4 9 "CrowdSimulator$MapText" "letters" "[C" ∈ wsL_law := inR4 _ (List.mem_of_getElem? (i := 19) rfl)
theorem wkX5_15 : Cond.fieldLink RX5 15 "CrowdSimulator$State" "passes" "[I" ∈ wsL_law := inR2 _ (List.mem_of_getElem? (i := 19) rfl)
theorem wkX5_18 : Cond.fieldLink RX5 18 "CrowdSimulator$State" "goalCells" "[I" ∈ wsL_law := inR2 _ (List.mem_of_getElem? (i := 20) rfl)
theorem wkX5_21 : Cond.fieldLink RX5 21 "CrowdSimulator$State" "places" "[I" ∈ wsL_law := inR2 _ (List.mem_of_getElem? (i := 21) rfl)
theorem wkX5_24 : Cond.fieldLink RX5 24 "CrowdSimulator$State" "goals" "[I" ∈ wsL_law := inR2 _ (List.mem_of_getElem? (i := 22) rfl)
theorem wkX5_27 : Cond.fieldLink RX5 27 "CrowdSimulator$State" "priorities" "[I" ∈ wsL_law := inR2 _ (List.mem_of_getElem? (i := 23) rfl)
theorem wkX5_30 : Cond.fieldLink RX5 30 "CrowdSimulator$State" "headings" "[I" ∈ wsL_law := inR3 _ (List.mem_of_getElem? (i := 0) rfl)
theorem wkX5_33 : Cond.fieldLink RX5 33 "CrowdSimulator$State" "waits" "[I" ∈ wsL_law := inR3 _ (List.mem_of_getElem? (i := 1) rfl)
theorem wkX5_36 : Cond.fieldLink RX5 36 "CrowdSimulator$State" "leaders" "[I" ∈ wsL_law := inR3 _ (List.mem_of_getElem? (i := 2) rfl)
theorem wkX5_39 : Cond.fieldLink RX5 39 "CrowdSimulator$State" "offsetsX" "[I" ∈ wsL_law := inR3 _ (List.mem_of_getElem? (i := 3) rfl)
theorem wkX5_42 : Cond.fieldLink RX5 42 "CrowdSimulator$State" "offsetsY" "[I" ∈ wsL_law := inR3 _ (List.mem_of_getElem? (i := 4) rfl)
theorem wkX5_45 : Cond.fieldLink RX5 45 "CrowdSimulator$State" "statistics" "[I" ∈ wsL_law := inR3 _ (List.mem_of_getElem? (i := 5) rfl)
theorem wkX5_48 : Cond.fieldLink RX5 48 "CrowdSimulator$State" "patience" "I" ∈ wsL_law := inR3 _ (List.mem_of_getElem? (i := 6) rfl)
theorem wkX5_9 : Cond.fieldLink RX5 9 "CrowdSimulator$State" "costs" "[I" ∈ wsL_law := inR2 _ (List.mem_of_getElem? (i := 18) rfl)
theorem wkX6_12 : Cond.fieldLink RX6 12 "CrowdSimulator" "state" "LCrowdSimulator$State;" ∈ wsL_law := inR1 _ (List.mem_of_getElem? (i := 17) rfl)
theorem wkX6_28 : Cond.fieldLink RX6 28 "CrowdSimulator" "crowd" "LCrowdSimulator$Crowd;" ∈ wsL_law := inR2 _ (List.mem_of_getElem? (i := 1) rfl)
theorem wkX6_42 : Cond.fieldLink RX6 42 "CrowdSimulator" "saved" "LCrowdSimulator$State;" ∈ wsL_law := inR2 _ (List.mem_of_getElem? (i := 7) rfl)
theorem wkX6_45 : Cond.fieldLink RX6 45 "CrowdSimulator" "isSaved" "Z" ∈ wsL_law := inR2 _ (List.mem_of_getElem? (i := 8) rfl)
theorem wkX7_13 : Cond.fieldLink RX7 13 "CrowdSimulatorModel" "saved" "[I" ∈ wsL_law := inR5 _ (List.mem_of_getElem? (i := 2) rfl)
theorem wkX7_16 : Cond.fieldLink RX7 16 "CrowdSimulatorModel" "aside" "[I" ∈ wsL_law := inR5 _ (List.mem_of_getElem? (i := 3) rfl)
theorem wkX7_19 : Cond.fieldLink RX7 19 "CrowdSimulatorModel" "past" "[I" ∈ wsL_law := inR5 _ (List.mem_of_getElem? (i := 4) rfl)
theorem wkX7_192 : Cond.fieldLink RX7 192 "CrowdSimulatorModel" "fed" "I" ∈ wsL_law := inR36 _ (List.mem_of_getElem? (i := 22) rfl)
theorem wkX7_198 : Cond.fieldLink RX7 198 "CrowdSimulatorModel" "isSaved" "Z" ∈ wsL_law := inR39 _ (List.mem_of_getElem? (i := 14) rfl)
theorem wkX7_22 : Cond.fieldLink RX7 22 "CrowdSimulatorModel" "field" "[I" ∈ wsL_law := inR5 _ (List.mem_of_getElem? (i := 5) rfl)
theorem wkX7_25 : Cond.fieldLink RX7 25 "CrowdSimulatorModel" "queue" "[I" ∈ wsL_law := inR5 _ (List.mem_of_getElem? (i := 6) rfl)
theorem wkX7_28 : Cond.fieldLink RX7 28 "CrowdSimulatorModel" "isKnown" "[Z" ∈ wsL_law := inR5 _ (List.mem_of_getElem? (i := 8) rfl)
theorem wkX7_32 : Cond.fieldLink RX7 32 "CrowdSimulatorModel" "isQueued" "[Z" ∈ wsL_law := inR5 _ (List.mem_of_getElem? (i := 9) rfl)
theorem wkX7_35 : Cond.fieldLink RX7 35 "CrowdSimulatorModel" "hadTurn" "[Z" ∈ wsL_law := inR5 _ (List.mem_of_getElem? (i := 10) rfl)
theorem wkX7_38 : Cond.fieldLink RX7 38 "CrowdSimulatorModel" "wasPushed" "[Z" ∈ wsL_law := inR5 _ (List.mem_of_getElem? (i := 11) rfl)
theorem wkX7_41 : Cond.fieldLink RX7 41 "CrowdSimulatorModel" "input" "[I" ∈ wsL_law := inR5 _ (List.mem_of_getElem? (i := 12) rfl)
theorem wkX7_44 : Cond.fieldLink RX7 44 "CrowdSimulatorModel" "read" "[I" ∈ wsL_law := inR5 _ (List.mem_of_getElem? (i := 13) rfl)
theorem wkX7_47 : Cond.fieldLink RX7 47 "CrowdSimulatorModel" "thrown" "I" ∈ wsL_law := inR8 _ (List.mem_of_getElem? (i := 11) rfl)
theorem wkX7_70 : Cond.fieldLink RX7 70 "CrowdSimulatorModel" "changes" "I" ∈ wsL_law := inR9 _ (List.mem_of_getElem? (i := 17) rfl)
theorem wkX7_9 : Cond.fieldLink RX7 9 "CrowdSimulatorModel" "s" "[I" ∈ wsL_law := inR5 _ (List.mem_of_getElem? (i := 1) rfl)
theorem wmX0_138 : Cond.methodLink RX0 138 yX0_shift ∈ wsL_law := inR28 _ (List.mem_of_getElem? (i := 11) rfl)
theorem wmX0_144 : Cond.methodLink RX0 144 yX0_bestFreeDirection ∈ wsL_law := inR28 _ (List.mem_of_getElem? (i := 6) rfl)
theorem wmX0_151 : Cond.methodLink RX0 151 yX0_isFree ∈ wsL_law := inR28 _ (List.mem_of_getElem? (i := 10) rfl)
theorem wmX0_154 : Cond.methodLink RX0 154 yX0_neighborsOf ∈ wsL_law := inR32 _ (List.mem_of_getElem? (i := 12) rfl)
theorem wmX0_157 : Cond.methodLink RX0 157 yJ6_bitCount_0f7a4 ∈ wsL_law := inR32 _ (List.mem_of_getElem? (i := 20) rfl)
theorem wmX0_162 : Cond.methodLink RX0 162 yX0_stuckOnes ∈ wsL_law := inR33 _ (List.mem_of_getElem? (i := 23) rfl)
theorem wmX0_166 : Cond.methodLink RX0 166 yX0_jamFrom ∈ wsL_law := inR34 _ (List.mem_of_getElem? (i := 0) rfl)
theorem wmX0_169 : Cond.methodLink RX0 169 yX0_agentsBeside ∈ wsL_law := inR32 _ (List.mem_of_getElem? (i := 16) rfl)
theorem wmX0_25 : Cond.methodLink RX0 25 yX0_exists ∈ wsL_law := inR18 _ (List.mem_of_getElem? (i := 3) rfl)
theorem wmX0_32 : Cond.methodLink RX0 32 yX0_agentOn ∈ wsL_law := inR6 _ (List.mem_of_getElem? (i := 21) rfl)
theorem wmX0_36 : Cond.methodLink RX0 36 yX0_goalOn ∈ wsL_law := inR7 _ (List.mem_of_getElem? (i := 2) rfl)
theorem wmX0_39 : Cond.methodLink RX0 39 yX0_isOpen ∈ wsL_law := inR17 _ (List.mem_of_getElem? (i := 18) rfl)
theorem wmX0_48 : Cond.methodLink RX0 48 yX0_membersOf ∈ wsL_law := inR25 _ (List.mem_of_getElem? (i := 8) rfl)
theorem wmX0_51 : Cond.methodLink RX0 51 yX0_slotOf ∈ wsL_law := inR21 _ (List.mem_of_getElem? (i := 13) rfl)
theorem wmX0_76 : Cond.methodLink RX0 76 yX0_targetOf ∈ wsL_law := inR22 _ (List.mem_of_getElem? (i := 0) rfl)
theorem wmX0_85 : Cond.methodLink RX0 85 yX1_distanceOf ∈ wsL_law := inR22 _ (List.mem_of_getElem? (i := 2) rfl)
theorem wmX0_90 : Cond.methodLink RX0 90 yX0_isSettled ∈ wsL_law := inR23 _ (List.mem_of_getElem? (i := 10) rfl)
theorem wmX0_96 : Cond.methodLink RX0 96 yX0_isMember ∈ wsL_law := inR23 _ (List.mem_of_getElem? (i := 20) rfl)
theorem wmX1_25 : Cond.methodLink RX1 25 yX1_distanceOf ∈ wsL_law := inR15 _ (List.mem_of_getElem? (i := 12) rfl)
theorem wmX1_33 : Cond.methodLink RX1 33 yX1_flowOf ∈ wsL_law := inR16 _ (List.mem_of_getElem? (i := 8) rfl)
theorem wmX2_40 : Cond.methodLink RX2 40 yJ7_fill_53178 ∈ wsL_law := inR11 _ (List.mem_of_getElem? (i := 12) rfl)
theorem wmX2_46 : Cond.methodLink RX2 46 yX2_enqueue ∈ wsL_law := inR11 _ (List.mem_of_getElem? (i := 13) rfl)
theorem wmX4_23 : Cond.methodLink RX4 23 yX4_isFull ∈ wsL_law := inR36 _ (List.mem_of_getElem? (i := 17) rfl)
theorem wmX4_27 : Cond.methodLink RX4 27 yJ7_fill_53178 ∈ wsL_law := inR37 _ (List.mem_of_getElem? (i := 11) rfl)
theorem wmX4_37 : Cond.methodLink RX4 37 yX4_costOf ∈ wsL_law := inR37 _ (List.mem_of_getElem? (i := 12) rfl)
theorem wmX5_58 : Cond.methodLink RX5 58 arraycopyName ∈ wsL_law := inR7 _ (List.mem_of_getElem? (i := 22) rfl)
theorem wmX6_177 : Cond.methodLink RX6 177 yX0_all ∈ wsL_law := inR19 _ (List.mem_of_getElem? (i := 11) rfl)
theorem wmX6_180 : Cond.methodLink RX6 180 yJ6_bitCount_0f7a4 ∈ wsL_law := inR19 _ (List.mem_of_getElem? (i := 15) rfl)
theorem wmX6_220 : Cond.methodLink RX6 220 yX0_stuckOnes ∈ wsL_law := inR23 _ (List.mem_of_getElem? (i := 11) rfl)
theorem wmX6_271 : Cond.methodLink RX6 271 yX5_copyFrom ∈ wsL_law := inR31 _ (List.mem_of_getElem? (i := 12) rfl)
theorem wmX6_281 : Cond.methodLink RX6 281 yX0_jamFrom ∈ wsL_law := inR32 _ (List.mem_of_getElem? (i := 8) rfl)
theorem wmX7_102 : Cond.methodLink RX7 102 yX7_isAgent ∈ wsL_law := inR9 _ (List.mem_of_getElem? (i := 5) rfl)
theorem wmX7_105 : Cond.methodLink RX7 105 yX7_at ∈ wsL_law := inR9 _ (List.mem_of_getElem? (i := 9) rfl)
theorem wmX7_108 : Cond.methodLink RX7 108 yX7_wrongGoal ∈ wsL_law := inR14 _ (List.mem_of_getElem? (i := 21) rfl)
theorem wmX7_112 : Cond.methodLink RX7 112 yX7_flowOf ∈ wsL_law := inR15 _ (List.mem_of_getElem? (i := 17) rfl)
theorem wmX7_115 : Cond.methodLink RX7 115 yX7_many ∈ wsL_law := inR18 _ (List.mem_of_getElem? (i := 12) rfl)
theorem wmX7_119 : Cond.methodLink RX7 119 yX7_put ∈ wsL_law := inR18 _ (List.mem_of_getElem? (i := 16) rfl)
theorem wmX7_123 : Cond.methodLink RX7 123 yX7_target ∈ wsL_law := inR22 _ (List.mem_of_getElem? (i := 11) rfl)
theorem wmX7_126 : Cond.methodLink RX7 126 yX7_farFor ∈ wsL_law := inR22 _ (List.mem_of_getElem? (i := 15) rfl)
theorem wmX7_129 : Cond.methodLink RX7 129 yX7_isSettled ∈ wsL_law := inR22 _ (List.mem_of_getElem? (i := 19) rfl)
theorem wmX7_132 : Cond.methodLink RX7 132 yX7_isStuck ∈ wsL_law := inR24 _ (List.mem_of_getElem? (i := 8) rfl)
theorem wmX7_135 : Cond.methodLink RX7 135 yX7_members ∈ wsL_law := inR24 _ (List.mem_of_getElem? (i := 12) rfl)
theorem wmX7_138 : Cond.methodLink RX7 138 Lib.Math.abs.name ∈ wsL_law := inR27 _ (List.mem_of_getElem? (i := 1) rfl)
theorem wmX7_143 : Cond.methodLink RX7 143 yX7_apart ∈ wsL_law := inR26 _ (List.mem_of_getElem? (i := 22) rfl)
theorem wmX7_146 : Cond.methodLink RX7 146 yX7_moves ∈ wsL_law := inR30 _ (List.mem_of_getElem? (i := 5) rfl)
theorem wmX7_150 : Cond.methodLink RX7 150 yX7_isEmpty ∈ wsL_law := inR30 _ (List.mem_of_getElem? (i := 1) rfl)
theorem wmX7_153 : Cond.methodLink RX7 153 yX7_waits ∈ wsL_law := inR29 _ (List.mem_of_getElem? (i := 17) rfl)
theorem wmX7_156 : Cond.methodLink RX7 156 yX7_isPushed ∈ wsL_law := inR29 _ (List.mem_of_getElem? (i := 21) rfl)
theorem wmX7_159 : Cond.methodLink RX7 159 yX7_movesItself ∈ wsL_law := inR30 _ (List.mem_of_getElem? (i := 9) rfl)
theorem wmX7_162 : Cond.methodLink RX7 162 yX7_detour ∈ wsL_law := inR30 _ (List.mem_of_getElem? (i := 13) rfl)
theorem wmX7_165 : Cond.methodLink RX7 165 yX7_nextInTurn ∈ wsL_law := inR29 _ (List.mem_of_getElem? (i := 9) rfl)
theorem wmX7_168 : Cond.methodLink RX7 168 yX7_turns ∈ wsL_law := inR29 _ (List.mem_of_getElem? (i := 13) rfl)
theorem wmX7_171 : Cond.methodLink RX7 171 yX7_ticks ∈ wsL_law := inR29 _ (List.mem_of_getElem? (i := 5) rfl)
theorem wmX7_174 : Cond.methodLink RX7 174 yX7_connected ∈ wsL_law := inR33 _ (List.mem_of_getElem? (i := 5) rfl)
theorem wmX7_177 : Cond.methodLink RX7 177 yX7_bits ∈ wsL_law := inR33 _ (List.mem_of_getElem? (i := 9) rfl)
theorem wmX7_180 : Cond.methodLink RX7 180 yX7_jamOf ∈ wsL_law := inR33 _ (List.mem_of_getElem? (i := 1) rfl)
theorem wmX7_183 : Cond.methodLink RX7 183 yX7_waitsOf ∈ wsL_law := inR34 _ (List.mem_of_getElem? (i := 13) rfl)
theorem wmX7_186 : Cond.methodLink RX7 186 yX7_freeAround ∈ wsL_law := inR34 _ (List.mem_of_getElem? (i := 17) rfl)
theorem wmX7_189 : Cond.methodLink RX7 189 Lib.Math.max.name ∈ wsL_law := inR35 _ (List.mem_of_getElem? (i := 11) rfl)
theorem wmX7_195 : Cond.methodLink RX7 195 yX7_reads ∈ wsL_law := inR37 _ (List.mem_of_getElem? (i := 23) rfl)
theorem wmX7_51 : Cond.methodLink RX7 51 yX7_isIn ∈ wsL_law := inR8 _ (List.mem_of_getElem? (i := 15) rfl)
theorem wmX7_55 : Cond.methodLink RX7 55 yX7_columnOf ∈ wsL_law := inR12 _ (List.mem_of_getElem? (i := 21) rfl)
theorem wmX7_59 : Cond.methodLink RX7 59 yX7_rowOf ∈ wsL_law := inR13 _ (List.mem_of_getElem? (i := 0) rfl)
theorem wmX7_62 : Cond.methodLink RX7 62 yX7_isCell ∈ wsL_law := inR8 _ (List.mem_of_getElem? (i := 12) rfl)
theorem wmX7_66 : Cond.methodLink RX7 66 yX7_cellAt ∈ wsL_law := inR8 _ (List.mem_of_getElem? (i := 18) rfl)
theorem wmX7_73 : Cond.methodLink RX7 73 yX7_forgets ∈ wsL_law := inR9 _ (List.mem_of_getElem? (i := 18) rfl)
theorem wmX7_76 : Cond.methodLink RX7 76 yX7_neighbor ∈ wsL_law := inR12 _ (List.mem_of_getElem? (i := 18) rfl)
theorem wmX7_79 : Cond.methodLink RX7 79 yX7_isFree ∈ wsL_law := inR12 _ (List.mem_of_getElem? (i := 6) rfl)
theorem wmX7_83 : Cond.methodLink RX7 83 yX7_measures ∈ wsL_law := inR12 _ (List.mem_of_getElem? (i := 14) rfl)
theorem wmX7_87 : Cond.methodLink RX7 87 yX7_far ∈ wsL_law := inR12 _ (List.mem_of_getElem? (i := 10) rfl)
theorem wmX7_90 : Cond.methodLink RX7 90 yX7_hasGoal ∈ wsL_law := inR8 _ (List.mem_of_getElem? (i := 21) rfl)
theorem wmX7_93 : Cond.methodLink RX7 93 yX7_agentOn ∈ wsL_law := inR9 _ (List.mem_of_getElem? (i := 1) rfl)
theorem wmX7_96 : Cond.methodLink RX7 96 yX7_keeps ∈ wsL_law := inR9 _ (List.mem_of_getElem? (i := 13) rfl)
theorem wmX7_99 : Cond.methodLink RX7 99 yX7_isGoal ∈ wsL_law := inR12 _ (List.mem_of_getElem? (i := 3) rfl)
theorem wst_abs : Cond.static Lib.Math.abs.name ∈ wsL_law := inR26 _ (List.mem_of_getElem? (i := 13) rfl)
theorem wst_max : Cond.static Lib.Math.max.name ∈ wsL_law := inR35 _ (List.mem_of_getElem? (i := 12) rfl)
theorem okX0_exists : sOkV yX0_exists cX0_exists 2 (some .boolean) 1 := ⟨⟨inR13 _ (List.mem_of_getElem? (i := 21) rfl), inR2 _ (List.mem_of_getElem? (i := 0) rfl), by decide +kernel⟩, inR13 _ (List.mem_of_getElem? (i := 19) rfl), inR13 _ (List.mem_of_getElem? (i := 20) rfl)⟩
theorem okX0_stuckOnes : sOkV yX0_stuckOnes cX0_stuckOnes 3 (some .int) 0 := ⟨⟨inR23 _ (List.mem_of_getElem? (i := 14) rfl), inR2 _ (List.mem_of_getElem? (i := 0) rfl), by decide +kernel⟩, inR23 _ (List.mem_of_getElem? (i := 12) rfl), inR23 _ (List.mem_of_getElem? (i := 13) rfl)⟩
theorem okX6_isIn : sOkS yX6_isIn cX6_isIn 2 (some .boolean) 2 := ⟨⟨inR26 _ (List.mem_of_getElem? (i := 17) rfl), inR1 _ (List.mem_of_getElem? (i := 2) rfl), by decide +kernel⟩, inR26 _ (List.mem_of_getElem? (i := 16) rfl)⟩
theorem okX6_neighborOf : sOkS yX6_neighborOf cX6_neighborOf 2 (some .int) 2 := ⟨⟨inR11 _ (List.mem_of_getElem? (i := 18) rfl), inR1 _ (List.mem_of_getElem? (i := 2) rfl), by decide +kernel⟩, inR11 _ (List.mem_of_getElem? (i := 17) rfl)⟩
theorem okX0_agentOn : sOkV yX0_agentOn cX0_agentOn 3 (some .int) 1 := ⟨⟨inR7 _ (List.mem_of_getElem? (i := 0) rfl), inR2 _ (List.mem_of_getElem? (i := 0) rfl), by decide +kernel⟩, inR6 _ (List.mem_of_getElem? (i := 22) rfl), inR6 _ (List.mem_of_getElem? (i := 23) rfl)⟩
theorem okX0_agentsBeside : sOkV yX0_agentsBeside cX0_agentsBeside 5 (some .int) 1 := ⟨⟨inR32 _ (List.mem_of_getElem? (i := 19) rfl), inR2 _ (List.mem_of_getElem? (i := 0) rfl), by decide +kernel⟩, inR32 _ (List.mem_of_getElem? (i := 17) rfl), inR32 _ (List.mem_of_getElem? (i := 18) rfl)⟩
theorem okX0_neighborsOf : sOkV yX0_neighborsOf cX0_neighborsOf 4 (some .int) 1 := ⟨⟨inR32 _ (List.mem_of_getElem? (i := 15) rfl), inR2 _ (List.mem_of_getElem? (i := 0) rfl), by decide +kernel⟩, inR32 _ (List.mem_of_getElem? (i := 13) rfl), inR32 _ (List.mem_of_getElem? (i := 14) rfl)⟩
theorem okJ6_bitCount_0f7a4 : sOkS yJ6_bitCount_0f7a4 cJ6_bitCount_0f7a4 1 (some .int) 1 := ⟨⟨inR19 _ (List.mem_of_getElem? (i := 18) rfl), inR19 _ (List.mem_of_getElem? (i := 17) rfl), by decide +kernel⟩, inR19 _ (List.mem_of_getElem? (i := 16) rfl)⟩
theorem okX0_jamFrom : sOkV yX0_jamFrom cX0_jamFrom 6 (some .int) 2 := ⟨⟨inR32 _ (List.mem_of_getElem? (i := 11) rfl), inR2 _ (List.mem_of_getElem? (i := 0) rfl), by decide +kernel⟩, inR32 _ (List.mem_of_getElem? (i := 9) rfl), inR32 _ (List.mem_of_getElem? (i := 10) rfl)⟩
theorem okX6_jams : sOkV yX6_jams cX6_jams 4 (some .int) 0 := ⟨⟨inR32 _ (List.mem_of_getElem? (i := 7) rfl), inR1 _ (List.mem_of_getElem? (i := 2) rfl), by decide +kernel⟩, inR32 _ (List.mem_of_getElem? (i := 5) rfl), inR32 _ (List.mem_of_getElem? (i := 6) rfl)⟩
theorem okX5_copyFrom : sOkV yX5_copyFrom cX5_copyFrom 2 none 1 := ⟨⟨inR7 _ (List.mem_of_getElem? (i := 21) rfl), inR1 _ (List.mem_of_getElem? (i := 16) rfl), by decide +kernel⟩, inR7 _ (List.mem_of_getElem? (i := 19) rfl), inR7 _ (List.mem_of_getElem? (i := 20) rfl)⟩
theorem okX0_all : sOkV yX0_all cX0_all 3 (some .int) 0 := ⟨⟨inR19 _ (List.mem_of_getElem? (i := 14) rfl), inR2 _ (List.mem_of_getElem? (i := 0) rfl), by decide +kernel⟩, inR19 _ (List.mem_of_getElem? (i := 12) rfl), inR19 _ (List.mem_of_getElem? (i := 13) rfl)⟩
theorem okX6_save : sOkV yX6_save cX6_save 1 (some .int) 0 := ⟨⟨inR39 _ (List.mem_of_getElem? (i := 9) rfl), inR1 _ (List.mem_of_getElem? (i := 2) rfl), by decide +kernel⟩, inR39 _ (List.mem_of_getElem? (i := 7) rfl), inR39 _ (List.mem_of_getElem? (i := 8) rfl)⟩
theorem okX6_isGoalOrNone : sOkS yX6_isGoalOrNone cX6_isGoalOrNone 1 (some .boolean) 1 := ⟨⟨inR17 _ (List.mem_of_getElem? (i := 10) rfl), inR1 _ (List.mem_of_getElem? (i := 2) rfl), by decide +kernel⟩, inR17 _ (List.mem_of_getElem? (i := 9) rfl)⟩
theorem okX6_isPriority : sOkS yX6_isPriority cX6_isPriority 1 (some .boolean) 1 := ⟨⟨inR17 _ (List.mem_of_getElem? (i := 13) rfl), inR1 _ (List.mem_of_getElem? (i := 2) rfl), by decide +kernel⟩, inR17 _ (List.mem_of_getElem? (i := 12) rfl)⟩
theorem okX6_isOffset : sOkS yX6_isOffset cX6_isOffset 1 (some .boolean) 1 := ⟨⟨inR25 _ (List.mem_of_getElem? (i := 3) rfl), inR1 _ (List.mem_of_getElem? (i := 2) rfl), by decide +kernel⟩, inR25 _ (List.mem_of_getElem? (i := 2) rfl)⟩
theorem okX6_cellAt : sOkS yX6_cellAt cX6_cellAt 3 (some .int) 2 := ⟨⟨inR6 _ (List.mem_of_getElem? (i := 11) rfl), inR1 _ (List.mem_of_getElem? (i := 2) rfl), by decide +kernel⟩, inR6 _ (List.mem_of_getElem? (i := 10) rfl)⟩
theorem okX6_columnOf : sOkS yX6_columnOf cX6_columnOf 1 (some .int) 1 := ⟨⟨inR21 _ (List.mem_of_getElem? (i := 3) rfl), inR1 _ (List.mem_of_getElem? (i := 2) rfl), by decide +kernel⟩, inR21 _ (List.mem_of_getElem? (i := 2) rfl)⟩
theorem okX6_rowOf : sOkS yX6_rowOf cX6_rowOf 1 (some .int) 1 := ⟨⟨inR21 _ (List.mem_of_getElem? (i := 6) rfl), inR1 _ (List.mem_of_getElem? (i := 2) rfl), by decide +kernel⟩, inR21 _ (List.mem_of_getElem? (i := 5) rfl)⟩
theorem okX7_thrown : sOkV yX7_thrown cX7_thrown 1 (some .int) 0 := ⟨⟨inR10 _ (List.mem_of_getElem? (i := 1) rfl), inR1 _ (List.mem_of_getElem? (i := 5) rfl), by decide +kernel⟩, inR9 _ (List.mem_of_getElem? (i := 23) rfl), inR10 _ (List.mem_of_getElem? (i := 0) rfl)⟩
theorem okX7_isIn : sOkS yX7_isIn cX7_isIn 3 (some .boolean) 3 := ⟨⟨inR8 _ (List.mem_of_getElem? (i := 17) rfl), inR1 _ (List.mem_of_getElem? (i := 5) rfl), by decide +kernel⟩, inR8 _ (List.mem_of_getElem? (i := 16) rfl)⟩
theorem okX7_isCell : sOkS yX7_isCell cX7_isCell 2 (some .boolean) 2 := ⟨⟨inR8 _ (List.mem_of_getElem? (i := 14) rfl), inR1 _ (List.mem_of_getElem? (i := 5) rfl), by decide +kernel⟩, inR8 _ (List.mem_of_getElem? (i := 13) rfl)⟩
theorem okX7_cellAt : sOkS yX7_cellAt cX7_cellAt 2 (some .int) 2 := ⟨⟨inR8 _ (List.mem_of_getElem? (i := 20) rfl), inR1 _ (List.mem_of_getElem? (i := 5) rfl), by decide +kernel⟩, inR8 _ (List.mem_of_getElem? (i := 19) rfl)⟩
theorem okX7_columnOf : sOkS yX7_columnOf cX7_columnOf 1 (some .int) 1 := ⟨⟨inR12 _ (List.mem_of_getElem? (i := 23) rfl), inR1 _ (List.mem_of_getElem? (i := 5) rfl), by decide +kernel⟩, inR12 _ (List.mem_of_getElem? (i := 22) rfl)⟩
theorem okX7_rowOf : sOkS yX7_rowOf cX7_rowOf 1 (some .int) 1 := ⟨⟨inR13 _ (List.mem_of_getElem? (i := 2) rfl), inR1 _ (List.mem_of_getElem? (i := 5) rfl), by decide +kernel⟩, inR13 _ (List.mem_of_getElem? (i := 1) rfl)⟩
theorem okX7_neighbor : sOkS yX7_neighbor cX7_neighbor 4 (some .int) 2 := ⟨⟨inR12 _ (List.mem_of_getElem? (i := 20) rfl), inR1 _ (List.mem_of_getElem? (i := 5) rfl), by decide +kernel⟩, inR12 _ (List.mem_of_getElem? (i := 19) rfl)⟩
theorem okX7_isFree : sOkV yX7_isFree cX7_isFree 2 (some .boolean) 1 := ⟨⟨inR12 _ (List.mem_of_getElem? (i := 9) rfl), inR1 _ (List.mem_of_getElem? (i := 5) rfl), by decide +kernel⟩, inR12 _ (List.mem_of_getElem? (i := 7) rfl), inR12 _ (List.mem_of_getElem? (i := 8) rfl)⟩
theorem okX7_keeps : sOkV yX7_keeps cX7_keeps 2 none 0 := ⟨⟨inR9 _ (List.mem_of_getElem? (i := 16) rfl), inR1 _ (List.mem_of_getElem? (i := 5) rfl), by decide +kernel⟩, inR9 _ (List.mem_of_getElem? (i := 14) rfl), inR9 _ (List.mem_of_getElem? (i := 15) rfl)⟩
theorem okX7_forgets : sOkV yX7_forgets cX7_forgets 2 none 0 := ⟨⟨inR9 _ (List.mem_of_getElem? (i := 21) rfl), inR1 _ (List.mem_of_getElem? (i := 5) rfl), by decide +kernel⟩, inR9 _ (List.mem_of_getElem? (i := 19) rfl), inR9 _ (List.mem_of_getElem? (i := 20) rfl)⟩
theorem okX7_undo : sOkV yX7_undo cX7_undo 2 (some .int) 0 := ⟨⟨inR39 _ (List.mem_of_getElem? (i := 5) rfl), inR1 _ (List.mem_of_getElem? (i := 5) rfl), by decide +kernel⟩, inR39 _ (List.mem_of_getElem? (i := 3) rfl), inR39 _ (List.mem_of_getElem? (i := 4) rfl)⟩
theorem okX7_measures : sOkV yX7_measures cX7_measures 9 none 1 := ⟨⟨inR12 _ (List.mem_of_getElem? (i := 17) rfl), inR1 _ (List.mem_of_getElem? (i := 5) rfl), by decide +kernel⟩, inR12 _ (List.mem_of_getElem? (i := 15) rfl), inR12 _ (List.mem_of_getElem? (i := 16) rfl)⟩
theorem okX7_far : sOkV yX7_far cX7_far 3 (some .int) 2 := ⟨⟨inR12 _ (List.mem_of_getElem? (i := 13) rfl), inR1 _ (List.mem_of_getElem? (i := 5) rfl), by decide +kernel⟩, inR12 _ (List.mem_of_getElem? (i := 11) rfl), inR12 _ (List.mem_of_getElem? (i := 12) rfl)⟩
theorem okX7_flowOf : sOkV yX7_flowOf cX7_flowOf 6 (some .int) 2 := ⟨⟨inR15 _ (List.mem_of_getElem? (i := 20) rfl), inR1 _ (List.mem_of_getElem? (i := 5) rfl), by decide +kernel⟩, inR15 _ (List.mem_of_getElem? (i := 18) rfl), inR15 _ (List.mem_of_getElem? (i := 19) rfl)⟩
theorem okX7_hasGoal : sOkV yX7_hasGoal cX7_hasGoal 3 (some .boolean) 1 := ⟨⟨inR9 _ (List.mem_of_getElem? (i := 0) rfl), inR1 _ (List.mem_of_getElem? (i := 5) rfl), by decide +kernel⟩, inR8 _ (List.mem_of_getElem? (i := 22) rfl), inR8 _ (List.mem_of_getElem? (i := 23) rfl)⟩
theorem okX7_at : sOkV yX7_at cX7_at 3 (some .int) 2 := ⟨⟨inR9 _ (List.mem_of_getElem? (i := 12) rfl), inR1 _ (List.mem_of_getElem? (i := 5) rfl), by decide +kernel⟩, inR9 _ (List.mem_of_getElem? (i := 10) rfl), inR9 _ (List.mem_of_getElem? (i := 11) rfl)⟩
theorem okX7_isAgent : sOkV yX7_isAgent cX7_isAgent 2 (some .boolean) 1 := ⟨⟨inR9 _ (List.mem_of_getElem? (i := 8) rfl), inR1 _ (List.mem_of_getElem? (i := 5) rfl), by decide +kernel⟩, inR9 _ (List.mem_of_getElem? (i := 6) rfl), inR9 _ (List.mem_of_getElem? (i := 7) rfl)⟩
theorem okX7_agentOn : sOkV yX7_agentOn cX7_agentOn 3 (some .int) 1 := ⟨⟨inR9 _ (List.mem_of_getElem? (i := 4) rfl), inR1 _ (List.mem_of_getElem? (i := 5) rfl), by decide +kernel⟩, inR9 _ (List.mem_of_getElem? (i := 2) rfl), inR9 _ (List.mem_of_getElem? (i := 3) rfl)⟩
theorem okX7_setCell : sOkV yX7_setCell cX7_setCell 6 (some .int) 3 := ⟨⟨inR8 _ (List.mem_of_getElem? (i := 10) rfl), inR1 _ (List.mem_of_getElem? (i := 5) rfl), by decide +kernel⟩, inR8 _ (List.mem_of_getElem? (i := 8) rfl), inR8 _ (List.mem_of_getElem? (i := 9) rfl)⟩
theorem okX7_cell : sOkV yX7_cell cX7_cell 6 (some .int) 3 := ⟨⟨inR10 _ (List.mem_of_getElem? (i := 15) rfl), inR1 _ (List.mem_of_getElem? (i := 5) rfl), by decide +kernel⟩, inR10 _ (List.mem_of_getElem? (i := 13) rfl), inR10 _ (List.mem_of_getElem? (i := 14) rfl)⟩
theorem okX7_isGoal : sOkS yX7_isGoal cX7_isGoal 1 (some .boolean) 1 := ⟨⟨inR12 _ (List.mem_of_getElem? (i := 5) rfl), inR1 _ (List.mem_of_getElem? (i := 5) rfl), by decide +kernel⟩, inR12 _ (List.mem_of_getElem? (i := 4) rfl)⟩
theorem okX7_setGoal : sOkV yX7_setGoal cX7_setGoal 7 (some .int) 3 := ⟨⟨inR12 _ (List.mem_of_getElem? (i := 2) rfl), inR1 _ (List.mem_of_getElem? (i := 5) rfl), by decide +kernel⟩, inR12 _ (List.mem_of_getElem? (i := 0) rfl), inR12 _ (List.mem_of_getElem? (i := 1) rfl)⟩
theorem okX7_dropGoal : sOkV yX7_dropGoal cX7_dropGoal 4 (some .int) 1 := ⟨⟨inR14 _ (List.mem_of_getElem? (i := 1) rfl), inR1 _ (List.mem_of_getElem? (i := 5) rfl), by decide +kernel⟩, inR13 _ (List.mem_of_getElem? (i := 23) rfl), inR14 _ (List.mem_of_getElem? (i := 0) rfl)⟩
theorem okX7_wrongGoal : sOkV yX7_wrongGoal cX7_wrongGoal 4 (some .int) 3 := ⟨⟨inR15 _ (List.mem_of_getElem? (i := 0) rfl), inR1 _ (List.mem_of_getElem? (i := 5) rfl), by decide +kernel⟩, inR14 _ (List.mem_of_getElem? (i := 22) rfl), inR14 _ (List.mem_of_getElem? (i := 23) rfl)⟩
theorem okX7_distance : sOkV yX7_distance cX7_distance 4 (some .int) 3 := ⟨⟨inR14 _ (List.mem_of_getElem? (i := 20) rfl), inR1 _ (List.mem_of_getElem? (i := 5) rfl), by decide +kernel⟩, inR14 _ (List.mem_of_getElem? (i := 18) rfl), inR14 _ (List.mem_of_getElem? (i := 19) rfl)⟩
theorem okX7_flow : sOkV yX7_flow cX7_flow 4 (some .int) 3 := ⟨⟨inR15 _ (List.mem_of_getElem? (i := 16) rfl), inR1 _ (List.mem_of_getElem? (i := 5) rfl), by decide +kernel⟩, inR15 _ (List.mem_of_getElem? (i := 14) rfl), inR15 _ (List.mem_of_getElem? (i := 15) rfl)⟩
theorem okX7_steps : sOkV yX7_steps cX7_steps 7 (some .int) 3 := ⟨⟨inR16 _ (List.mem_of_getElem? (i := 12) rfl), inR1 _ (List.mem_of_getElem? (i := 5) rfl), by decide +kernel⟩, inR16 _ (List.mem_of_getElem? (i := 10) rfl), inR16 _ (List.mem_of_getElem? (i := 11) rfl)⟩
theorem okX7_setPatience : sOkV yX7_setPatience cX7_setPatience 3 (some .int) 1 := ⟨⟨inR17 _ (List.mem_of_getElem? (i := 0) rfl), inR1 _ (List.mem_of_getElem? (i := 5) rfl), by decide +kernel⟩, inR16 _ (List.mem_of_getElem? (i := 22) rfl), inR16 _ (List.mem_of_getElem? (i := 23) rfl)⟩
theorem okX7_put : sOkV yX7_put cX7_put 4 none 3 := ⟨⟨inR18 _ (List.mem_of_getElem? (i := 19) rfl), inR1 _ (List.mem_of_getElem? (i := 5) rfl), by decide +kernel⟩, inR18 _ (List.mem_of_getElem? (i := 17) rfl), inR18 _ (List.mem_of_getElem? (i := 18) rfl)⟩
theorem okX7_many : sOkV yX7_many cX7_many 3 (some .int) 0 := ⟨⟨inR18 _ (List.mem_of_getElem? (i := 15) rfl), inR1 _ (List.mem_of_getElem? (i := 5) rfl), by decide +kernel⟩, inR18 _ (List.mem_of_getElem? (i := 13) rfl), inR18 _ (List.mem_of_getElem? (i := 14) rfl)⟩
theorem okX7_add : sOkV yX7_add cX7_add 8 (some .int) 4 := ⟨⟨inR18 _ (List.mem_of_getElem? (i := 11) rfl), inR1 _ (List.mem_of_getElem? (i := 5) rfl), by decide +kernel⟩, inR18 _ (List.mem_of_getElem? (i := 9) rfl), inR18 _ (List.mem_of_getElem? (i := 10) rfl)⟩
theorem okX7_members : sOkV yX7_members cX7_members 4 (some .int) 1 := ⟨⟨inR24 _ (List.mem_of_getElem? (i := 15) rfl), inR1 _ (List.mem_of_getElem? (i := 5) rfl), by decide +kernel⟩, inR24 _ (List.mem_of_getElem? (i := 13) rfl), inR24 _ (List.mem_of_getElem? (i := 14) rfl)⟩
theorem okX7_remove : sOkV yX7_remove cX7_remove 3 (some .int) 1 := ⟨⟨inR20 _ (List.mem_of_getElem? (i := 1) rfl), inR1 _ (List.mem_of_getElem? (i := 5) rfl), by decide +kernel⟩, inR19 _ (List.mem_of_getElem? (i := 23) rfl), inR20 _ (List.mem_of_getElem? (i := 0) rfl)⟩
theorem okX7_change : sOkV yX7_change cX7_change 6 (some .int) 3 := ⟨⟨inR20 _ (List.mem_of_getElem? (i := 13) rfl), inR1 _ (List.mem_of_getElem? (i := 5) rfl), by decide +kernel⟩, inR20 _ (List.mem_of_getElem? (i := 11) rfl), inR20 _ (List.mem_of_getElem? (i := 12) rfl)⟩
theorem okX7_target : sOkV yX7_target cX7_target 11 (some .int) 1 := ⟨⟨inR22 _ (List.mem_of_getElem? (i := 14) rfl), inR1 _ (List.mem_of_getElem? (i := 5) rfl), by decide +kernel⟩, inR22 _ (List.mem_of_getElem? (i := 12) rfl), inR22 _ (List.mem_of_getElem? (i := 13) rfl)⟩
theorem okX7_isSettled : sOkV yX7_isSettled cX7_isSettled 3 (some .boolean) 1 := ⟨⟨inR22 _ (List.mem_of_getElem? (i := 22) rfl), inR1 _ (List.mem_of_getElem? (i := 5) rfl), by decide +kernel⟩, inR22 _ (List.mem_of_getElem? (i := 20) rfl), inR22 _ (List.mem_of_getElem? (i := 21) rfl)⟩
theorem okX7_farFor : sOkV yX7_farFor cX7_farFor 4 (some .int) 2 := ⟨⟨inR22 _ (List.mem_of_getElem? (i := 18) rfl), inR1 _ (List.mem_of_getElem? (i := 5) rfl), by decide +kernel⟩, inR22 _ (List.mem_of_getElem? (i := 16) rfl), inR22 _ (List.mem_of_getElem? (i := 17) rfl)⟩
theorem okX7_agent : sOkV yX7_agent cX7_agent 4 (some .int) 2 := ⟨⟨inR22 _ (List.mem_of_getElem? (i := 10) rfl), inR1 _ (List.mem_of_getElem? (i := 5) rfl), by decide +kernel⟩, inR22 _ (List.mem_of_getElem? (i := 8) rfl), inR22 _ (List.mem_of_getElem? (i := 9) rfl)⟩
theorem okX7_isStuck : sOkV yX7_isStuck cX7_isStuck 2 (some .boolean) 1 := ⟨⟨inR24 _ (List.mem_of_getElem? (i := 11) rfl), inR1 _ (List.mem_of_getElem? (i := 5) rfl), by decide +kernel⟩, inR24 _ (List.mem_of_getElem? (i := 9) rfl), inR24 _ (List.mem_of_getElem? (i := 10) rfl)⟩
theorem okX7_agents : sOkV yX7_agents cX7_agents 5 (some .int) 1 := ⟨⟨inR24 _ (List.mem_of_getElem? (i := 7) rfl), inR1 _ (List.mem_of_getElem? (i := 5) rfl), by decide +kernel⟩, inR24 _ (List.mem_of_getElem? (i := 5) rfl), inR24 _ (List.mem_of_getElem? (i := 6) rfl)⟩
theorem okX7_join : sOkV yX7_join cX7_join 5 (some .int) 4 := ⟨⟨inR25 _ (List.mem_of_getElem? (i := 17) rfl), inR1 _ (List.mem_of_getElem? (i := 5) rfl), by decide +kernel⟩, inR25 _ (List.mem_of_getElem? (i := 15) rfl), inR25 _ (List.mem_of_getElem? (i := 16) rfl)⟩
theorem okX7_leave : sOkV yX7_leave cX7_leave 3 (some .int) 1 := ⟨⟨inR26 _ (List.mem_of_getElem? (i := 4) rfl), inR1 _ (List.mem_of_getElem? (i := 5) rfl), by decide +kernel⟩, inR26 _ (List.mem_of_getElem? (i := 2) rfl), inR26 _ (List.mem_of_getElem? (i := 3) rfl)⟩
theorem okX7_apart : sOkS yX7_apart cX7_apart 2 (some .int) 2 := ⟨⟨inR27 _ (List.mem_of_getElem? (i := 0) rfl), inR1 _ (List.mem_of_getElem? (i := 5) rfl), by decide +kernel⟩, inR26 _ (List.mem_of_getElem? (i := 23) rfl)⟩
theorem okX7_disorder : sOkV yX7_disorder cX7_disorder 4 (some .int) 1 := ⟨⟨inR26 _ (List.mem_of_getElem? (i := 21) rfl), inR1 _ (List.mem_of_getElem? (i := 5) rfl), by decide +kernel⟩, inR26 _ (List.mem_of_getElem? (i := 19) rfl), inR26 _ (List.mem_of_getElem? (i := 20) rfl)⟩
theorem okX7_moves : sOkV yX7_moves cX7_moves 4 none 2 := ⟨⟨inR30 _ (List.mem_of_getElem? (i := 8) rfl), inR1 _ (List.mem_of_getElem? (i := 5) rfl), by decide +kernel⟩, inR30 _ (List.mem_of_getElem? (i := 6) rfl), inR30 _ (List.mem_of_getElem? (i := 7) rfl)⟩
theorem okX7_movesItself : sOkV yX7_movesItself cX7_movesItself 3 none 2 := ⟨⟨inR30 _ (List.mem_of_getElem? (i := 12) rfl), inR1 _ (List.mem_of_getElem? (i := 5) rfl), by decide +kernel⟩, inR30 _ (List.mem_of_getElem? (i := 10) rfl), inR30 _ (List.mem_of_getElem? (i := 11) rfl)⟩
theorem okX7_isEmpty : sOkV yX7_isEmpty cX7_isEmpty 2 (some .boolean) 1 := ⟨⟨inR30 _ (List.mem_of_getElem? (i := 4) rfl), inR1 _ (List.mem_of_getElem? (i := 5) rfl), by decide +kernel⟩, inR30 _ (List.mem_of_getElem? (i := 2) rfl), inR30 _ (List.mem_of_getElem? (i := 3) rfl)⟩
theorem okX7_isPushed : sOkV yX7_isPushed cX7_isPushed 7 (some .boolean) 1 := ⟨⟨inR30 _ (List.mem_of_getElem? (i := 0) rfl), inR1 _ (List.mem_of_getElem? (i := 5) rfl), by decide +kernel⟩, inR29 _ (List.mem_of_getElem? (i := 22) rfl), inR29 _ (List.mem_of_getElem? (i := 23) rfl)⟩
theorem okX7_detour : sOkV yX7_detour cX7_detour 8 (some .int) 3 := ⟨⟨inR30 _ (List.mem_of_getElem? (i := 16) rfl), inR1 _ (List.mem_of_getElem? (i := 5) rfl), by decide +kernel⟩, inR30 _ (List.mem_of_getElem? (i := 14) rfl), inR30 _ (List.mem_of_getElem? (i := 15) rfl)⟩
theorem okX7_waits : sOkV yX7_waits cX7_waits 2 none 1 := ⟨⟨inR29 _ (List.mem_of_getElem? (i := 20) rfl), inR1 _ (List.mem_of_getElem? (i := 5) rfl), by decide +kernel⟩, inR29 _ (List.mem_of_getElem? (i := 18) rfl), inR29 _ (List.mem_of_getElem? (i := 19) rfl)⟩
theorem okX7_turns : sOkV yX7_turns cX7_turns 8 none 1 := ⟨⟨inR29 _ (List.mem_of_getElem? (i := 16) rfl), inR1 _ (List.mem_of_getElem? (i := 5) rfl), by decide +kernel⟩, inR29 _ (List.mem_of_getElem? (i := 14) rfl), inR29 _ (List.mem_of_getElem? (i := 15) rfl)⟩
theorem okX7_nextInTurn : sOkV yX7_nextInTurn cX7_nextInTurn 3 (some .int) 0 := ⟨⟨inR29 _ (List.mem_of_getElem? (i := 12) rfl), inR1 _ (List.mem_of_getElem? (i := 5) rfl), by decide +kernel⟩, inR29 _ (List.mem_of_getElem? (i := 10) rfl), inR29 _ (List.mem_of_getElem? (i := 11) rfl)⟩
theorem okX7_ticks : sOkV yX7_ticks cX7_ticks 2 none 0 := ⟨⟨inR29 _ (List.mem_of_getElem? (i := 8) rfl), inR1 _ (List.mem_of_getElem? (i := 5) rfl), by decide +kernel⟩, inR29 _ (List.mem_of_getElem? (i := 6) rfl), inR29 _ (List.mem_of_getElem? (i := 7) rfl)⟩
theorem okX7_tick : sOkV yX7_tick cX7_tick 3 (some .int) 1 := ⟨⟨inR29 _ (List.mem_of_getElem? (i := 4) rfl), inR1 _ (List.mem_of_getElem? (i := 5) rfl), by decide +kernel⟩, inR29 _ (List.mem_of_getElem? (i := 2) rfl), inR29 _ (List.mem_of_getElem? (i := 3) rfl)⟩
theorem okX7_statistic : sOkV yX7_statistic cX7_statistic 2 (some .int) 1 := ⟨⟨inR31 _ (List.mem_of_getElem? (i := 3) rfl), inR1 _ (List.mem_of_getElem? (i := 5) rfl), by decide +kernel⟩, inR31 _ (List.mem_of_getElem? (i := 1) rfl), inR31 _ (List.mem_of_getElem? (i := 2) rfl)⟩
theorem okX7_forecast : sOkV yX7_forecast cX7_forecast 4 (some .int) 1 := ⟨⟨inR31 _ (List.mem_of_getElem? (i := 16) rfl), inR1 _ (List.mem_of_getElem? (i := 5) rfl), by decide +kernel⟩, inR31 _ (List.mem_of_getElem? (i := 14) rfl), inR31 _ (List.mem_of_getElem? (i := 15) rfl)⟩
theorem okX7_bottleneck : sOkV yX7_bottleneck cX7_bottleneck 3 (some .int) 0 := ⟨⟨inR32 _ (List.mem_of_getElem? (i := 3) rfl), inR1 _ (List.mem_of_getElem? (i := 5) rfl), by decide +kernel⟩, inR32 _ (List.mem_of_getElem? (i := 1) rfl), inR32 _ (List.mem_of_getElem? (i := 2) rfl)⟩
theorem okX7_bits : sOkS yX7_bits cX7_bits 3 (some .int) 1 := ⟨⟨inR33 _ (List.mem_of_getElem? (i := 11) rfl), inR1 _ (List.mem_of_getElem? (i := 5) rfl), by decide +kernel⟩, inR33 _ (List.mem_of_getElem? (i := 10) rfl)⟩
theorem okX7_connected : sOkV yX7_connected cX7_connected 6 (some .int) 1 := ⟨⟨inR33 _ (List.mem_of_getElem? (i := 8) rfl), inR1 _ (List.mem_of_getElem? (i := 5) rfl), by decide +kernel⟩, inR33 _ (List.mem_of_getElem? (i := 6) rfl), inR33 _ (List.mem_of_getElem? (i := 7) rfl)⟩
theorem okX7_jamOf : sOkV yX7_jamOf cX7_jamOf 6 (some .int) 1 := ⟨⟨inR33 _ (List.mem_of_getElem? (i := 4) rfl), inR1 _ (List.mem_of_getElem? (i := 5) rfl), by decide +kernel⟩, inR33 _ (List.mem_of_getElem? (i := 2) rfl), inR33 _ (List.mem_of_getElem? (i := 3) rfl)⟩
theorem okX7_jams : sOkV yX7_jams cX7_jams 1 (some .int) 0 := ⟨⟨inR33 _ (List.mem_of_getElem? (i := 0) rfl), inR1 _ (List.mem_of_getElem? (i := 5) rfl), by decide +kernel⟩, inR32 _ (List.mem_of_getElem? (i := 22) rfl), inR32 _ (List.mem_of_getElem? (i := 23) rfl)⟩
theorem okX7_freeAround : sOkV yX7_freeAround cX7_freeAround 6 (some .int) 1 := ⟨⟨inR34 _ (List.mem_of_getElem? (i := 20) rfl), inR1 _ (List.mem_of_getElem? (i := 5) rfl), by decide +kernel⟩, inR34 _ (List.mem_of_getElem? (i := 18) rfl), inR34 _ (List.mem_of_getElem? (i := 19) rfl)⟩
theorem okX7_waitsOf : sOkV yX7_waitsOf cX7_waitsOf 4 (some .int) 1 := ⟨⟨inR34 _ (List.mem_of_getElem? (i := 16) rfl), inR1 _ (List.mem_of_getElem? (i := 5) rfl), by decide +kernel⟩, inR34 _ (List.mem_of_getElem? (i := 14) rfl), inR34 _ (List.mem_of_getElem? (i := 15) rfl)⟩
theorem okX7_jam : sOkV yX7_jam cX7_jam 4 (some .int) 2 := ⟨⟨inR34 _ (List.mem_of_getElem? (i := 12) rfl), inR1 _ (List.mem_of_getElem? (i := 5) rfl), by decide +kernel⟩, inR34 _ (List.mem_of_getElem? (i := 10) rfl), inR34 _ (List.mem_of_getElem? (i := 11) rfl)⟩
theorem okX7_meanDistance : sOkV yX7_meanDistance cX7_meanDistance 5 (some .double) 0 := ⟨⟨inR35 _ (List.mem_of_getElem? (i := 10) rfl), inR1 _ (List.mem_of_getElem? (i := 5) rfl), by decide +kernel⟩, inR35 _ (List.mem_of_getElem? (i := 8) rfl), inR35 _ (List.mem_of_getElem? (i := 9) rfl)⟩
theorem okX7_density : sOkV yX7_density cX7_density 3 (some .float) 0 := ⟨⟨inR36 _ (List.mem_of_getElem? (i := 0) rfl), inR1 _ (List.mem_of_getElem? (i := 5) rfl), by decide +kernel⟩, inR35 _ (List.mem_of_getElem? (i := 22) rfl), inR35 _ (List.mem_of_getElem? (i := 23) rfl)⟩
theorem okX7_feed : sOkV yX7_feed cX7_feed 2 (some .int) 1 := ⟨⟨inR36 _ (List.mem_of_getElem? (i := 21) rfl), inR1 _ (List.mem_of_getElem? (i := 5) rfl), by decide +kernel⟩, inR36 _ (List.mem_of_getElem? (i := 19) rfl), inR36 _ (List.mem_of_getElem? (i := 20) rfl)⟩
theorem okX7_reads : sOkV yX7_reads cX7_reads 4 (some .int) 0 := ⟨⟨inR38 _ (List.mem_of_getElem? (i := 2) rfl), inR1 _ (List.mem_of_getElem? (i := 5) rfl), by decide +kernel⟩, inR38 _ (List.mem_of_getElem? (i := 0) rfl), inR38 _ (List.mem_of_getElem? (i := 1) rfl)⟩
theorem okX7_readMap : sOkV yX7_readMap cX7_readMap 4 (some .int) 0 := ⟨⟨inR37 _ (List.mem_of_getElem? (i := 22) rfl), inR1 _ (List.mem_of_getElem? (i := 5) rfl), by decide +kernel⟩, inR37 _ (List.mem_of_getElem? (i := 20) rfl), inR37 _ (List.mem_of_getElem? (i := 21) rfl)⟩
theorem okX7_map : sOkV yX7_map cX7_map 4 (some .char) 1 := ⟨⟨inR38 _ (List.mem_of_getElem? (i := 13) rfl), inR1 _ (List.mem_of_getElem? (i := 5) rfl), by decide +kernel⟩, inR38 _ (List.mem_of_getElem? (i := 11) rfl), inR38 _ (List.mem_of_getElem? (i := 12) rfl)⟩
theorem okX7_save : sOkV yX7_save cX7_save 2 (some .int) 0 := ⟨⟨inR39 _ (List.mem_of_getElem? (i := 13) rfl), inR1 _ (List.mem_of_getElem? (i := 5) rfl), by decide +kernel⟩, inR39 _ (List.mem_of_getElem? (i := 11) rfl), inR39 _ (List.mem_of_getElem? (i := 12) rfl)⟩
theorem okX7_restore : sOkV yX7_restore cX7_restore 2 (some .int) 0 := ⟨⟨inR40 _ (List.mem_of_getElem? (i := 5) rfl), inR1 _ (List.mem_of_getElem? (i := 5) rfl), by decide +kernel⟩, inR40 _ (List.mem_of_getElem? (i := 3) rfl), inR40 _ (List.mem_of_getElem? (i := 4) rfl)⟩
theorem okX0_lowestUnused : sOkV yX0_lowestUnused cX0_lowestUnused 2 (some .int) 0 := ⟨⟨inR18 _ (List.mem_of_getElem? (i := 2) rfl), inR2 _ (List.mem_of_getElem? (i := 0) rfl), by decide +kernel⟩, inR18 _ (List.mem_of_getElem? (i := 0) rfl), inR18 _ (List.mem_of_getElem? (i := 1) rfl)⟩
theorem okX0_goalOn : sOkV yX0_goalOn cX0_goalOn 3 (some .int) 1 := ⟨⟨inR7 _ (List.mem_of_getElem? (i := 5) rfl), inR2 _ (List.mem_of_getElem? (i := 0) rfl), by decide +kernel⟩, inR7 _ (List.mem_of_getElem? (i := 3) rfl), inR7 _ (List.mem_of_getElem? (i := 4) rfl)⟩
theorem okX0_isInUse : sOkV yX0_isInUse cX0_isInUse 2 (some .boolean) 1 := ⟨⟨inR6 _ (List.mem_of_getElem? (i := 20) rfl), inR2 _ (List.mem_of_getElem? (i := 0) rfl), by decide +kernel⟩, inR6 _ (List.mem_of_getElem? (i := 18) rfl), inR6 _ (List.mem_of_getElem? (i := 19) rfl)⟩
theorem okX0_isOpen : sOkV yX0_isOpen cX0_isOpen 2 (some .boolean) 1 := ⟨⟨inR17 _ (List.mem_of_getElem? (i := 21) rfl), inR2 _ (List.mem_of_getElem? (i := 0) rfl), by decide +kernel⟩, inR17 _ (List.mem_of_getElem? (i := 19) rfl), inR17 _ (List.mem_of_getElem? (i := 20) rfl)⟩
theorem okX0_isFree : sOkV yX0_isFree cX0_isFree 2 (some .boolean) 1 := ⟨⟨inR17 _ (List.mem_of_getElem? (i := 17) rfl), inR2 _ (List.mem_of_getElem? (i := 0) rfl), by decide +kernel⟩, inR17 _ (List.mem_of_getElem? (i := 15) rfl), inR17 _ (List.mem_of_getElem? (i := 16) rfl)⟩
theorem okX0_isMember : sOkV yX0_isMember cX0_isMember 2 (some .boolean) 1 := ⟨⟨inR23 _ (List.mem_of_getElem? (i := 23) rfl), inR2 _ (List.mem_of_getElem? (i := 0) rfl), by decide +kernel⟩, inR23 _ (List.mem_of_getElem? (i := 21) rfl), inR23 _ (List.mem_of_getElem? (i := 22) rfl)⟩
theorem okX0_membersOf : sOkV yX0_membersOf cX0_membersOf 4 (some .int) 1 := ⟨⟨inR25 _ (List.mem_of_getElem? (i := 11) rfl), inR2 _ (List.mem_of_getElem? (i := 0) rfl), by decide +kernel⟩, inR25 _ (List.mem_of_getElem? (i := 9) rfl), inR25 _ (List.mem_of_getElem? (i := 10) rfl)⟩
theorem okX0_isLeader : sOkV yX0_isLeader cX0_isLeader 2 (some .boolean) 1 := ⟨⟨inR25 _ (List.mem_of_getElem? (i := 7) rfl), inR2 _ (List.mem_of_getElem? (i := 0) rfl), by decide +kernel⟩, inR25 _ (List.mem_of_getElem? (i := 5) rfl), inR25 _ (List.mem_of_getElem? (i := 6) rfl)⟩
theorem okX0_slotOf : sOkV yX0_slotOf cX0_slotOf 7 (some .int) 2 := ⟨⟨inR21 _ (List.mem_of_getElem? (i := 16) rfl), inR2 _ (List.mem_of_getElem? (i := 0) rfl), by decide +kernel⟩, inR21 _ (List.mem_of_getElem? (i := 14) rfl), inR21 _ (List.mem_of_getElem? (i := 15) rfl)⟩
theorem okX0_targetOf : sOkV yX0_targetOf cX0_targetOf 4 (some .int) 1 := ⟨⟨inR21 _ (List.mem_of_getElem? (i := 10) rfl), inR2 _ (List.mem_of_getElem? (i := 0) rfl), by decide +kernel⟩, inR21 _ (List.mem_of_getElem? (i := 8) rfl), inR21 _ (List.mem_of_getElem? (i := 9) rfl)⟩
theorem okX0_isSettled : sOkV yX0_isSettled cX0_isSettled 3 (some .boolean) 1 := ⟨⟨inR22 _ (List.mem_of_getElem? (i := 6) rfl), inR2 _ (List.mem_of_getElem? (i := 0) rfl), by decide +kernel⟩, inR22 _ (List.mem_of_getElem? (i := 4) rfl), inR22 _ (List.mem_of_getElem? (i := 5) rfl)⟩
theorem okX0_settledOnes : sOkV yX0_settledOnes cX0_settledOnes 3 (some .int) 0 := ⟨⟨inR23 _ (List.mem_of_getElem? (i := 9) rfl), inR2 _ (List.mem_of_getElem? (i := 0) rfl), by decide +kernel⟩, inR23 _ (List.mem_of_getElem? (i := 7) rfl), inR23 _ (List.mem_of_getElem? (i := 8) rfl)⟩
theorem okX0_leadingOnes : sOkV yX0_leadingOnes cX0_leadingOnes 3 (some .int) 0 := ⟨⟨inR23 _ (List.mem_of_getElem? (i := 19) rfl), inR2 _ (List.mem_of_getElem? (i := 0) rfl), by decide +kernel⟩, inR23 _ (List.mem_of_getElem? (i := 17) rfl), inR23 _ (List.mem_of_getElem? (i := 18) rfl)⟩
theorem okX0_memberOnes : sOkV yX0_memberOnes cX0_memberOnes 3 (some .int) 0 := ⟨⟨inR24 _ (List.mem_of_getElem? (i := 3) rfl), inR2 _ (List.mem_of_getElem? (i := 0) rfl), by decide +kernel⟩, inR24 _ (List.mem_of_getElem? (i := 1) rfl), inR24 _ (List.mem_of_getElem? (i := 2) rfl)⟩
theorem okX0_delay : sOkV yX0_delay cX0_delay 2 none 1 := ⟨⟨inR28 _ (List.mem_of_getElem? (i := 1) rfl), inR2 _ (List.mem_of_getElem? (i := 0) rfl), by decide +kernel⟩, inR27 _ (List.mem_of_getElem? (i := 23) rfl), inR28 _ (List.mem_of_getElem? (i := 0) rfl)⟩
theorem okX0_shift : sOkV yX0_shift cX0_shift 4 none 2 := ⟨⟨inR28 _ (List.mem_of_getElem? (i := 14) rfl), inR2 _ (List.mem_of_getElem? (i := 0) rfl), by decide +kernel⟩, inR28 _ (List.mem_of_getElem? (i := 12) rfl), inR28 _ (List.mem_of_getElem? (i := 13) rfl)⟩
theorem okX0_advance : sOkV yX0_advance cX0_advance 3 none 2 := ⟨⟨inR28 _ (List.mem_of_getElem? (i := 19) rfl), inR2 _ (List.mem_of_getElem? (i := 0) rfl), by decide +kernel⟩, inR28 _ (List.mem_of_getElem? (i := 17) rfl), inR28 _ (List.mem_of_getElem? (i := 18) rfl)⟩
theorem okX1_distanceOf : sOkV yX1_distanceOf cX1_distanceOf 2 (some .int) 1 := ⟨⟨inR14 _ (List.mem_of_getElem? (i := 16) rfl), inR3 _ (List.mem_of_getElem? (i := 17) rfl), by decide +kernel⟩, inR14 _ (List.mem_of_getElem? (i := 14) rfl), inR14 _ (List.mem_of_getElem? (i := 15) rfl)⟩
theorem okX0_bestFreeDirection : sOkV yX0_bestFreeDirection cX0_bestFreeDirection 9 (some .int) 3 := ⟨⟨inR28 _ (List.mem_of_getElem? (i := 9) rfl), inR2 _ (List.mem_of_getElem? (i := 0) rfl), by decide +kernel⟩, inR28 _ (List.mem_of_getElem? (i := 7) rfl), inR28 _ (List.mem_of_getElem? (i := 8) rfl)⟩
theorem okX0_detourOf : sOkV yX0_detourOf cX0_detourOf 4 (some .int) 2 := ⟨⟨inR28 _ (List.mem_of_getElem? (i := 23) rfl), inR2 _ (List.mem_of_getElem? (i := 0) rfl), by decide +kernel⟩, inR28 _ (List.mem_of_getElem? (i := 21) rfl), inR28 _ (List.mem_of_getElem? (i := 22) rfl)⟩
theorem okX0_jamNumber : sOkV yX0_jamNumber cX0_jamNumber 6 (some .int) 1 := ⟨⟨inR33 _ (List.mem_of_getElem? (i := 22) rfl), inR2 _ (List.mem_of_getElem? (i := 0) rfl), by decide +kernel⟩, inR33 _ (List.mem_of_getElem? (i := 20) rfl), inR33 _ (List.mem_of_getElem? (i := 21) rfl)⟩
theorem okX0_sumOfWaits : sOkV yX0_sumOfWaits cX0_sumOfWaits 4 (some .int) 1 := ⟨⟨inR34 _ (List.mem_of_getElem? (i := 4) rfl), inR2 _ (List.mem_of_getElem? (i := 0) rfl), by decide +kernel⟩, inR34 _ (List.mem_of_getElem? (i := 2) rfl), inR34 _ (List.mem_of_getElem? (i := 3) rfl)⟩
theorem okX0_freeCellsAround : sOkV yX0_freeCellsAround cX0_freeCellsAround 4 (some .int) 1 := ⟨⟨inR34 _ (List.mem_of_getElem? (i := 8) rfl), inR2 _ (List.mem_of_getElem? (i := 0) rfl), by decide +kernel⟩, inR34 _ (List.mem_of_getElem? (i := 6) rfl), inR34 _ (List.mem_of_getElem? (i := 7) rfl)⟩
theorem okX1_flowOf : sOkV yX1_flowOf cX1_flowOf 7 (some .int) 2 := ⟨⟨inR15 _ (List.mem_of_getElem? (i := 11) rfl), inR3 _ (List.mem_of_getElem? (i := 17) rfl), by decide +kernel⟩, inR15 _ (List.mem_of_getElem? (i := 9) rfl), inR15 _ (List.mem_of_getElem? (i := 10) rfl)⟩
theorem okX1_stepsFrom : sOkV yX1_stepsFrom cX1_stepsFrom 5 (some .int) 2 := ⟨⟨inR16 _ (List.mem_of_getElem? (i := 7) rfl), inR3 _ (List.mem_of_getElem? (i := 17) rfl), by decide +kernel⟩, inR16 _ (List.mem_of_getElem? (i := 5) rfl), inR16 _ (List.mem_of_getElem? (i := 6) rfl)⟩
theorem okX1_reachedCells : sOkV yX1_reachedCells cX1_reachedCells 3 (some .int) 0 := ⟨⟨inR11 _ (List.mem_of_getElem? (i := 22) rfl), inR3 _ (List.mem_of_getElem? (i := 17) rfl), by decide +kernel⟩, inR11 _ (List.mem_of_getElem? (i := 20) rfl), inR11 _ (List.mem_of_getElem? (i := 21) rfl)⟩
theorem okJ7_fill_53178 : sOkS yJ7_fill_53178 cJ7_fill_53178 4 none 2 := ⟨⟨inR3 _ (List.mem_of_getElem? (i := 10) rfl), inR3 _ (List.mem_of_getElem? (i := 9) rfl), by decide +kernel⟩, inR3 _ (List.mem_of_getElem? (i := 8) rfl)⟩
theorem okX2_enqueue : sOkV yX2_enqueue cX2_enqueue 4 none 2 := ⟨⟨inR11 _ (List.mem_of_getElem? (i := 16) rfl), inR1 _ (List.mem_of_getElem? (i := 20) rfl), by decide +kernel⟩, inR11 _ (List.mem_of_getElem? (i := 14) rfl), inR11 _ (List.mem_of_getElem? (i := 15) rfl)⟩
theorem okX2_spread : sOkV yX2_spread cX2_spread 10 none 3 := ⟨⟨inR11 _ (List.mem_of_getElem? (i := 11) rfl), inR1 _ (List.mem_of_getElem? (i := 20) rfl), by decide +kernel⟩, inR11 _ (List.mem_of_getElem? (i := 9) rfl), inR11 _ (List.mem_of_getElem? (i := 10) rfl)⟩
theorem okX3_clear : sOkV yX3_clear cX3_clear 1 none 0 := ⟨⟨inR40 _ (List.mem_of_getElem? (i := 1) rfl), inR2 _ (List.mem_of_getElem? (i := 5) rfl), by decide +kernel⟩, inR39 _ (List.mem_of_getElem? (i := 23) rfl), inR40 _ (List.mem_of_getElem? (i := 0) rfl)⟩
theorem okX4_isFull : sOkV yX4_isFull cX4_isFull 1 (some .boolean) 0 := ⟨⟨inR36 _ (List.mem_of_getElem? (i := 11) rfl), inR2 _ (List.mem_of_getElem? (i := 11) rfl), by decide +kernel⟩, inR36 _ (List.mem_of_getElem? (i := 9) rfl), inR36 _ (List.mem_of_getElem? (i := 10) rfl)⟩
theorem okX4_append : sOkV yX4_append cX4_append 2 (some .int) 1 := ⟨⟨inR36 _ (List.mem_of_getElem? (i := 16) rfl), inR2 _ (List.mem_of_getElem? (i := 11) rfl), by decide +kernel⟩, inR36 _ (List.mem_of_getElem? (i := 14) rfl), inR36 _ (List.mem_of_getElem? (i := 15) rfl)⟩
theorem okX4_empty : sOkV yX4_empty cX4_empty 1 none 0 := ⟨⟨inR37 _ (List.mem_of_getElem? (i := 18) rfl), inR2 _ (List.mem_of_getElem? (i := 11) rfl), by decide +kernel⟩, inR37 _ (List.mem_of_getElem? (i := 16) rfl), inR37 _ (List.mem_of_getElem? (i := 17) rfl)⟩
theorem okX4_costOf : sOkS yX4_costOf cX4_costOf 1 (some .int) 1 := ⟨⟨inR37 _ (List.mem_of_getElem? (i := 14) rfl), inR2 _ (List.mem_of_getElem? (i := 11) rfl), by decide +kernel⟩, inR37 _ (List.mem_of_getElem? (i := 13) rfl)⟩
theorem okX4_parse : sOkV yX4_parse cX4_parse 6 (some .int) 0 := ⟨⟨inR37 _ (List.mem_of_getElem? (i := 10) rfl), inR2 _ (List.mem_of_getElem? (i := 11) rfl), by decide +kernel⟩, inR37 _ (List.mem_of_getElem? (i := 8) rfl), inR37 _ (List.mem_of_getElem? (i := 9) rfl)⟩
theorem okX5_place : sOkV yX5_place cX5_place 5 none 4 := ⟨⟨inR18 _ (List.mem_of_getElem? (i := 7) rfl), inR1 _ (List.mem_of_getElem? (i := 16) rfl), by decide +kernel⟩, inR18 _ (List.mem_of_getElem? (i := 5) rfl), inR18 _ (List.mem_of_getElem? (i := 6) rfl)⟩
theorem okX5_erase : sOkV yX5_erase cX5_erase 3 none 1 := ⟨⟨inR19 _ (List.mem_of_getElem? (i := 10) rfl), inR1 _ (List.mem_of_getElem? (i := 16) rfl), by decide +kernel⟩, inR19 _ (List.mem_of_getElem? (i := 8) rfl), inR19 _ (List.mem_of_getElem? (i := 9) rfl)⟩
