theorem warr_boolean : Cond.arrayClass .boolean ∈ wsL_law := inR5 _ (List.mem_of_getElem? (i := 7) rfl)
theorem warr_char : Cond.arrayClass .char ∈ wsL_law := inR4 _ (List.mem_of_getElem? (i := 18) rfl)
theorem warr_int : Cond.arrayClass .int ∈ wsL_law := inR2 _ (List.mem_of_getElem? (i := 17) rfl)
theorem wcd_min : Cond.code Lib.Math.min.name Lib.Math.min.code 2 (some .int) ∈ wsL_law := inR7 _ (List.mem_of_getElem? (i := 16) rfl)
theorem wclX2_9 : Cond.classLink RX2 9 RX1 ∈ wsL_law := inR3 _ (List.mem_of_getElem? (i := 14) rfl)
theorem wclX3_9 : Cond.classLink RX3 9 RX5 ∈ wsL_law := inR4 _ (List.mem_of_getElem? (i := 13) rfl)
theorem wclX6_16 : Cond.classLink RX6 16 RX2 ∈ wsL_law := inR1 _ (List.mem_of_getElem? (i := 18) rfl)
theorem wclX6_23 : Cond.classLink RX6 23 RX0 ∈ wsL_law := inR1 _ (List.mem_of_getElem? (i := 22) rfl)
theorem wclX6_35 : Cond.classLink RX6 35 RX3 ∈ wsL_law := inR2 _ (List.mem_of_getElem? (i := 3) rfl)
theorem wclX6_49 : Cond.classLink RX6 49 RX4 ∈ wsL_law := inR2 _ (List.mem_of_getElem? (i := 9) rfl)
theorem wclX6_9 : Cond.classLink RX6 9 RX5 ∈ wsL_law := inR1 _ (List.mem_of_getElem? (i := 14) rfl)
theorem winiX0 : Cond.initialized RX0 ∈ wsL_law := inR2 _ (List.mem_of_getElem? (i := 0) rfl)
theorem winiX1 : Cond.initialized RX1 ∈ wsL_law := inR3 _ (List.mem_of_getElem? (i := 17) rfl)
theorem winiX2 : Cond.initialized RX2 ∈ wsL_law := inR1 _ (List.mem_of_getElem? (i := 20) rfl)
theorem winiX3 : Cond.initialized RX3 ∈ wsL_law := inR2 _ (List.mem_of_getElem? (i := 5) rfl)
theorem winiX4 : Cond.initialized RX4 ∈ wsL_law := inR2 _ (List.mem_of_getElem? (i := 11) rfl)
theorem winiX5 : Cond.initialized RX5 ∈ wsL_law := inR1 _ (List.mem_of_getElem? (i := 16) rfl)
theorem winsX0 : Cond.instantiable RX0 3 ∈ wsL_law := inR1 _ (List.mem_of_getElem? (i := 23) rfl)
theorem winsX1 : Cond.instantiable RX1 2 ∈ wsL_law := inR3 _ (List.mem_of_getElem? (i := 16) rfl)
theorem winsX2 : Cond.instantiable RX2 4 ∈ wsL_law := inR1 _ (List.mem_of_getElem? (i := 19) rfl)
theorem winsX3 : Cond.instantiable RX3 3 ∈ wsL_law := inR2 _ (List.mem_of_getElem? (i := 4) rfl)
theorem winsX4 : Cond.instantiable RX4 3 ∈ wsL_law := inR2 _ (List.mem_of_getElem? (i := 10) rfl)
theorem winsX5 : Cond.instantiable RX5 13 ∈ wsL_law := inR1 _ (List.mem_of_getElem? (i := 15) rfl)
theorem wkX0_102 : Cond.fieldLink RX0 102 "CrowdSimulator$Crowd" "pushed" "I" ∈ wsL_law := inR27 _ (List.mem_of_getElem? (i := 15) rfl)
theorem wkX0_106 : Cond.fieldLink RX0 106 "CrowdSimulator$State" "priorities" "[I" ∈ wsL_law := inR27 _ (List.mem_of_getElem? (i := 16) rfl)
theorem wkX0_15 : Cond.fieldLink RX0 15 "CrowdSimulator$Crowd" "fields" "LCrowdSimulator$Fields;" ∈ wsL_law := inR4 _ (List.mem_of_getElem? (i := 9) rfl)
theorem wkX1_21 : Cond.fieldLink RX1 21 "CrowdSimulator$Field" "isKnown" "Z" ∈ wsL_law := inR4 _ (List.mem_of_getElem? (i := 2) rfl)
theorem wkX2_18 : Cond.fieldLink RX2 18 "CrowdSimulator$Fields" "nowhere" "LCrowdSimulator$Field;" ∈ wsL_law := inR3 _ (List.mem_of_getElem? (i := 18) rfl)
theorem wkX2_29 : Cond.fieldLink RX2 29 "CrowdSimulator$Field" "isKnown" "Z" ∈ wsL_law := inR8 _ (List.mem_of_getElem? (i := 6) rfl)
theorem wkX2_33 : Cond.fieldLink RX2 33 "CrowdSimulator$Field" "distances" "[I" ∈ wsL_law := inR11 _ (List.mem_of_getElem? (i := 7) rfl)
theorem wkX3_11 : Cond.fieldLink RX3 11 "CrowdSimulator$History" "states" "[LCrowdSimulator$State;" ∈ wsL_law := inR4 _ (List.mem_of_getElem? (i := 14) rfl)
theorem wkX3_17 : Cond.fieldLink RX3 17 "CrowdSimulator$History" "next" "I" ∈ wsL_law := inR7 _ (List.mem_of_getElem? (i := 11) rfl)
theorem wkX6_19 : Cond.fieldLink RX6 19 "CrowdSimulator" "fields" "LCrowdSimulator$Fields;" ∈ wsL_law := inR1 _ (List.mem_of_getElem? (i := 21) rfl)
theorem wkX6_32 : Cond.fieldLink RX6 32 "CrowdSimulator" "trial" "LCrowdSimulator$Crowd;" ∈ wsL_law := inR2 _ (List.mem_of_getElem? (i := 2) rfl)
theorem wkX6_38 : Cond.fieldLink RX6 38 "CrowdSimulator" "history" "LCrowdSimulator$History;" ∈ wsL_law := inR2 _ (List.mem_of_getElem? (i := 6) rfl)
theorem wkX6_52 : Cond.fieldLink RX6 52 "CrowdSimulator" "text" "LCrowdSimulator$MapText;" ∈ wsL_law := inR2 _ (List.mem_of_getElem? (i := 12) rfl)
theorem wmX0_109 : Cond.methodLink RX0 109 yX0_takeTurn ∈ wsL_law := inR27 _ (List.mem_of_getElem? (i := 17) rfl)
theorem wmX0_117 : Cond.methodLink RX0 117 yX1_flowOf ∈ wsL_law := inR27 _ (List.mem_of_getElem? (i := 21) rfl)
theorem wmX0_121 : Cond.methodLink RX0 121 yX0_delay ∈ wsL_law := inR27 _ (List.mem_of_getElem? (i := 22) rfl)
theorem wmX0_127 : Cond.methodLink RX0 127 yX0_pushAside ∈ wsL_law := inR28 _ (List.mem_of_getElem? (i := 2) rfl)
theorem wmX0_130 : Cond.methodLink RX0 130 yX0_advance ∈ wsL_law := inR28 _ (List.mem_of_getElem? (i := 16) rfl)
theorem wmX0_134 : Cond.methodLink RX0 134 yX0_detourOf ∈ wsL_law := inR28 _ (List.mem_of_getElem? (i := 20) rfl)
theorem wmX0_3 : Cond.methodLink RX0 3 objectInit ∈ wsL_law := inR4 _ (List.mem_of_getElem? (i := 7) rfl)
theorem wmX0_79 : Cond.methodLink RX0 79 yX2_toward ∈ wsL_law := inR22 _ (List.mem_of_getElem? (i := 1) rfl)
theorem wmX1_15 : Cond.methodLink RX1 15 yJ7_fill_53178 ∈ wsL_law := inR4 _ (List.mem_of_getElem? (i := 3) rfl)
theorem wmX1_3 : Cond.methodLink RX1 3 objectInit ∈ wsL_law := inR4 _ (List.mem_of_getElem? (i := 0) rfl)
theorem wmX2_17 : Cond.methodLink RX2 17 yX1_init ∈ wsL_law := inR3 _ (List.mem_of_getElem? (i := 21) rfl)
theorem wmX2_3 : Cond.methodLink RX2 3 objectInit ∈ wsL_law := inR3 _ (List.mem_of_getElem? (i := 13) rfl)
theorem wmX2_36 : Cond.methodLink RX2 36 yX2_spread ∈ wsL_law := inR11 _ (List.mem_of_getElem? (i := 8) rfl)
theorem wmX3_21 : Cond.methodLink RX3 21 yX5_init ∈ wsL_law := inR7 _ (List.mem_of_getElem? (i := 17) rfl)
theorem wmX3_22 : Cond.methodLink RX3 22 yX5_copyFrom ∈ wsL_law := inR7 _ (List.mem_of_getElem? (i := 18) rfl)
theorem wmX3_29 : Cond.methodLink RX3 29 Lib.Math.min.name ∈ wsL_law := inR7 _ (List.mem_of_getElem? (i := 13) rfl)
theorem wmX3_3 : Cond.methodLink RX3 3 objectInit ∈ wsL_law := inR4 _ (List.mem_of_getElem? (i := 12) rfl)
theorem wmX4_3 : Cond.methodLink RX4 3 objectInit ∈ wsL_law := inR4 _ (List.mem_of_getElem? (i := 17) rfl)
theorem wmX5_3 : Cond.methodLink RX5 3 objectInit ∈ wsL_law := inR2 _ (List.mem_of_getElem? (i := 16) rfl)
theorem wmX5_52 : Cond.methodLink RX5 52 yJ7_fill_53178 ∈ wsL_law := inR3 _ (List.mem_of_getElem? (i := 7) rfl)
theorem wmX6_11 : Cond.methodLink RX6 11 yX5_init ∈ wsL_law := inR2 _ (List.mem_of_getElem? (i := 13) rfl)
theorem wmX6_25 : Cond.methodLink RX6 25 yX0_init ∈ wsL_law := inR4 _ (List.mem_of_getElem? (i := 4) rfl)
theorem wmX6_3 : Cond.methodLink RX6 3 objectInit ∈ wsL_law := inR1 _ (List.mem_of_getElem? (i := 11) rfl)
theorem wmX7_3 : Cond.methodLink RX7 3 objectInit ∈ wsL_law := inR5 _ (List.mem_of_getElem? (i := 0) rfl)
theorem wobc : Cond.code objectInit ⟨#[0xb1]⟩ 1 none ∈ wsL_law := inR1 _ (List.mem_of_getElem? (i := 13) rfl)
theorem wobi : Cond.instanceMethod objectInit ∈ wsL_law := inR1 _ (List.mem_of_getElem? (i := 12) rfl)
theorem wst_min : Cond.static Lib.Math.min.name ∈ wsL_law := inR7 _ (List.mem_of_getElem? (i := 14) rfl)
theorem okX1_init : sOkI yX1_init cX1_init 1 0 := ⟨⟨inR3 _ (List.mem_of_getElem? (i := 23) rfl), inR3 _ (List.mem_of_getElem? (i := 17) rfl), by decide +kernel⟩, inR3 _ (List.mem_of_getElem? (i := 22) rfl), rfl⟩
theorem okX5_init : sOkI yX5_init cX5_init 1 0 := ⟨⟨inR2 _ (List.mem_of_getElem? (i := 15) rfl), inR1 _ (List.mem_of_getElem? (i := 16) rfl), by decide +kernel⟩, inR2 _ (List.mem_of_getElem? (i := 14) rfl), rfl⟩
theorem okX2_init : sOkI yX2_init cX2_init 1 0 := ⟨⟨inR3 _ (List.mem_of_getElem? (i := 12) rfl), inR1 _ (List.mem_of_getElem? (i := 20) rfl), by decide +kernel⟩, inR3 _ (List.mem_of_getElem? (i := 11) rfl), rfl⟩
theorem okX0_init : sOkI yX0_init cX0_init 3 2 := ⟨⟨inR4 _ (List.mem_of_getElem? (i := 6) rfl), inR2 _ (List.mem_of_getElem? (i := 0) rfl), by decide +kernel⟩, inR4 _ (List.mem_of_getElem? (i := 5) rfl), rfl⟩
theorem okX3_init : sOkI yX3_init cX3_init 1 0 := ⟨⟨inR4 _ (List.mem_of_getElem? (i := 11) rfl), inR2 _ (List.mem_of_getElem? (i := 5) rfl), by decide +kernel⟩, inR4 _ (List.mem_of_getElem? (i := 10) rfl), rfl⟩
theorem okX4_init : sOkI yX4_init cX4_init 1 0 := ⟨⟨inR4 _ (List.mem_of_getElem? (i := 16) rfl), inR2 _ (List.mem_of_getElem? (i := 11) rfl), by decide +kernel⟩, inR4 _ (List.mem_of_getElem? (i := 15) rfl), rfl⟩
theorem okX7_init : sOkI yX7_init cX7_init 2 0 := ⟨⟨inR4 _ (List.mem_of_getElem? (i := 23) rfl), inR1 _ (List.mem_of_getElem? (i := 5) rfl), by decide +kernel⟩, inR4 _ (List.mem_of_getElem? (i := 22) rfl), rfl⟩
theorem okX6_init : sOkI yX6_init cX6_init 1 0 := ⟨⟨inR1 _ (List.mem_of_getElem? (i := 10) rfl), inR1 _ (List.mem_of_getElem? (i := 2) rfl), by decide +kernel⟩, inR1 _ (List.mem_of_getElem? (i := 9) rfl), rfl⟩
theorem okX2_forgetAll : sOkV yX2_forgetAll cX2_forgetAll 3 none 0 := ⟨⟨inR8 _ (List.mem_of_getElem? (i := 5) rfl), inR1 _ (List.mem_of_getElem? (i := 20) rfl), by decide +kernel⟩, inR8 _ (List.mem_of_getElem? (i := 3) rfl), inR8 _ (List.mem_of_getElem? (i := 4) rfl)⟩
theorem okX2_toward : sOkV yX2_toward cX2_toward 4 (some (.object "CrowdSimulator$Field")) 2 := ⟨⟨inR11 _ (List.mem_of_getElem? (i := 6) rfl), inR1 _ (List.mem_of_getElem? (i := 20) rfl), by decide +kernel⟩, inR11 _ (List.mem_of_getElem? (i := 4) rfl), inR11 _ (List.mem_of_getElem? (i := 5) rfl)⟩
theorem okX0_distanceLeft : sOkV yX0_distanceLeft cX0_distanceLeft 2 (some .int) 1 := ⟨⟨inR21 _ (List.mem_of_getElem? (i := 23) rfl), inR2 _ (List.mem_of_getElem? (i := 0) rfl), by decide +kernel⟩, inR21 _ (List.mem_of_getElem? (i := 21) rfl), inR21 _ (List.mem_of_getElem? (i := 22) rfl)⟩
theorem okX0_pushAside : sOkV yX0_pushAside cX0_pushAside 5 (some .boolean) 2 := ⟨⟨inR28 _ (List.mem_of_getElem? (i := 5) rfl), inR2 _ (List.mem_of_getElem? (i := 0) rfl), by decide +kernel⟩, inR28 _ (List.mem_of_getElem? (i := 3) rfl), inR28 _ (List.mem_of_getElem? (i := 4) rfl)⟩
theorem okX0_takeTurn : sOkV yX0_takeTurn cX0_takeTurn 8 none 1 := ⟨⟨inR27 _ (List.mem_of_getElem? (i := 20) rfl), inR2 _ (List.mem_of_getElem? (i := 0) rfl), by decide +kernel⟩, inR27 _ (List.mem_of_getElem? (i := 18) rfl), inR27 _ (List.mem_of_getElem? (i := 19) rfl)⟩
theorem okX0_passTick : sOkV yX0_passTick cX0_passTick 3 none 0 := ⟨⟨inR27 _ (List.mem_of_getElem? (i := 13) rfl), inR2 _ (List.mem_of_getElem? (i := 0) rfl), by decide +kernel⟩, inR27 _ (List.mem_of_getElem? (i := 11) rfl), inR27 _ (List.mem_of_getElem? (i := 12) rfl)⟩
theorem okX3_record : sOkV yX3_record cX3_record 3 none 1 := ⟨⟨inR7 _ (List.mem_of_getElem? (i := 10) rfl), inR2 _ (List.mem_of_getElem? (i := 5) rfl), by decide +kernel⟩, inR7 _ (List.mem_of_getElem? (i := 8) rfl), inR7 _ (List.mem_of_getElem? (i := 9) rfl)⟩
theorem okX3_takeBack : sOkV yX3_takeBack cX3_takeBack 4 none 1 := ⟨⟨inR39 _ (List.mem_of_getElem? (i := 1) rfl), inR2 _ (List.mem_of_getElem? (i := 5) rfl), by decide +kernel⟩, inR38 _ (List.mem_of_getElem? (i := 23) rfl), inR39 _ (List.mem_of_getElem? (i := 0) rfl)⟩
