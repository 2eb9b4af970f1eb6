/-! THE START OF THE LAW: what the tables say, the objects made -/
theorem wn_0 : Cond.methodLinkNest RX6 18 yX2_init "CrowdSimulator" ∈ lw_tbl := (show Cond.methodLinkNest RX6 18 yX2_init "CrowdSimulator" ∈ k2_sels lw_privs ++ tables_1 from List.mem_append_right _ (List.mem_of_getElem? (i := 109) (by decide +kernel)))
theorem wn_1 : Cond.methodLinkNest RX6 51 yX4_init "CrowdSimulator" ∈ lw_tbl := (show Cond.methodLinkNest RX6 51 yX4_init "CrowdSimulator" ∈ k2_sels lw_privs ++ tables_1 from List.mem_append_right _ (List.mem_of_getElem? (i := 181) (by decide +kernel)))
theorem wn_2 : Cond.methodLinkNest RX0 113 yX6_isIn "CrowdSimulator" ∈ lw_tbl := (show Cond.methodLinkNest RX0 113 yX6_isIn "CrowdSimulator" ∈ k2_sels lw_privs ++ tables_1 from List.mem_append_right _ (List.mem_of_getElem? (i := 238) (by decide +kernel)))
theorem wn_3 : Cond.methodLinkNest RX0 124 yX6_neighborOf "CrowdSimulator" ∈ lw_tbl := (show Cond.methodLinkNest RX0 124 yX6_neighborOf "CrowdSimulator" ∈ k2_sels lw_privs ++ tables_1 from List.mem_append_right _ (List.mem_of_getElem? (i := 249) (by decide +kernel)))
theorem wn_4 : Cond.methodLinkNest RX2 50 yX6_neighborOf "CrowdSimulator" ∈ lw_tbl := (show Cond.methodLinkNest RX2 50 yX6_neighborOf "CrowdSimulator" ∈ k2_sels lw_privs ++ tables_1 from List.mem_append_right _ (List.mem_of_getElem? (i := 476) (by decide +kernel)))
theorem wn_5 : Cond.methodLinkNest RX1 29 yX6_neighborOf "CrowdSimulator" ∈ lw_tbl := (show Cond.methodLinkNest RX1 29 yX6_neighborOf "CrowdSimulator" ∈ k2_sels lw_privs ++ tables_1 from List.mem_append_right _ (List.mem_of_getElem? (i := 537) (by decide +kernel)))
theorem wn_6 : Cond.methodLinkNest RX0 64 yX6_columnOf "CrowdSimulator" ∈ lw_tbl := (show Cond.methodLinkNest RX0 64 yX6_columnOf "CrowdSimulator" ∈ k2_sels lw_privs ++ tables_1 from List.mem_append_right _ (List.mem_of_getElem? (i := 632) (by decide +kernel)))
theorem wn_7 : Cond.methodLinkNest RX0 67 yX6_rowOf "CrowdSimulator" ∈ lw_tbl := (show Cond.methodLinkNest RX0 67 yX6_rowOf "CrowdSimulator" ∈ k2_sels lw_privs ++ tables_1 from List.mem_append_right _ (List.mem_of_getElem? (i := 633) (by decide +kernel)))
theorem wn_8 : Cond.methodLinkNest RX0 73 yX6_cellAt "CrowdSimulator" ∈ lw_tbl := (show Cond.methodLinkNest RX0 73 yX6_cellAt "CrowdSimulator" ∈ k2_sels lw_privs ++ tables_1 from List.mem_append_right _ (List.mem_of_getElem? (i := 634) (by decide +kernel)))
theorem wn_9 : Cond.methodLinkNest RX4 33 yX6_cellAt "CrowdSimulator" ∈ lw_tbl := (show Cond.methodLinkNest RX4 33 yX6_cellAt "CrowdSimulator" ∈ k2_sels lw_privs ++ tables_1 from List.mem_append_right _ (List.mem_of_getElem? (i := 861) (by decide +kernel)))
theorem wn_10 : Cond.methodLinkNest RX6 37 yX3_init "CrowdSimulator" ∈ lw_tbl := (show Cond.methodLinkNest RX6 37 yX3_init "CrowdSimulator" ∈ k2_sels lw_privs ++ tables_1 from List.mem_append_right _ (List.mem_of_getElem? (i := 162) (by decide +kernel)))
theorem wo_F : Cond.arrayOver (.object "CrowdSimulator$Field") ∈ lw_tbl := (show Cond.arrayOver (.object "CrowdSimulator$Field") ∈ k2_sels lw_privs ++ tables_1 from List.mem_append_right _ (List.mem_of_getElem? (i := 114) (by decide +kernel)))
theorem wo_S : Cond.arrayOver (.object "CrowdSimulator$State") ∈ lw_tbl := (show Cond.arrayOver (.object "CrowdSimulator$State") ∈ k2_sels lw_privs ++ tables_1 from List.mem_append_right _ (List.mem_of_getElem? (i := 167) (by decide +kernel)))
theorem wd_0 : Cond.declares (Bundle.initS "java/lang/RuntimeException") ∈ lw_tbl := (show Cond.declares (Bundle.initS "java/lang/RuntimeException") ∈ k2_sels lw_privs ++ tables_1 from List.mem_append_right _ (List.mem_of_getElem? (i := 339) (by decide +kernel)))
theorem wd_1 : Cond.declares (Bundle.initS "java/lang/Exception") ∈ lw_tbl := (show Cond.declares (Bundle.initS "java/lang/Exception") ∈ k2_sels lw_privs ++ tables_1 from List.mem_append_right _ (List.mem_of_getElem? (i := 341) (by decide +kernel)))
theorem wd_2 : Cond.declares (Bundle.initS Bundle.tN) ∈ lw_tbl := (show Cond.declares (Bundle.initS Bundle.tN) ∈ k2_sels lw_privs ++ tables_1 from List.mem_append_right _ (List.mem_of_getElem? (i := 343) (by decide +kernel)))
theorem wc_0 : Cond.castable "java/lang/IndexOutOfBoundsException" "java/lang/IndexOutOfBoundsException" ∈ lw_tbl := (show Cond.castable "java/lang/IndexOutOfBoundsException" "java/lang/IndexOutOfBoundsException" ∈ k2_sels lw_privs ++ tables_1 from List.mem_append_right _ (List.mem_of_getElem? (i := 374) (by decide +kernel)))
theorem wc_1 : Cond.castable "java/lang/IllegalArgumentException" "java/lang/IllegalArgumentException" ∈ lw_tbl := (show Cond.castable "java/lang/IllegalArgumentException" "java/lang/IllegalArgumentException" ∈ k2_sels lw_privs ++ tables_1 from List.mem_append_right _ (List.mem_of_getElem? (i := 390) (by decide +kernel)))
theorem wc_2 : Cond.castable "java/lang/IllegalStateException" "java/lang/IllegalStateException" ∈ lw_tbl := (show Cond.castable "java/lang/IllegalStateException" "java/lang/IllegalStateException" ∈ k2_sels lw_privs ++ tables_1 from List.mem_append_right _ (List.mem_of_getElem? (i := 414) (by decide +kernel)))
theorem wc_3 : Cond.castable "java/util/NoSuchElementException" "java/util/NoSuchElementException" ∈ lw_tbl := (show Cond.castable "java/util/NoSuchElementException" "java/util/NoSuchElementException" ∈ k2_sels lw_privs ++ tables_1 from List.mem_append_right _ (List.mem_of_getElem? (i := 495) (by decide +kernel)))
theorem wc_4 : Cond.castable "java/lang/ArithmeticException" "java/lang/ArithmeticException" ∈ lw_tbl := (show Cond.castable "java/lang/ArithmeticException" "java/lang/ArithmeticException" ∈ k2_sels lw_privs ++ tables_1 from List.mem_append_right _ (List.mem_of_getElem? (i := 815) (by decide +kernel)))
theorem wt_0 : Cond.stringRef RX6 74 "an agent or a goal is on the cell" ∈ lw_tbl := (show Cond.stringRef RX6 74 "an agent or a goal is on the cell" ∈ k2_sels lw_privs ++ tables_1 from List.mem_append_right _ (List.mem_of_getElem? (i := 421) (by decide +kernel)))
theorem wt_1 : Cond.stringRef RX6 102 "no such number about a cell" ∈ lw_tbl := (show Cond.stringRef RX6 102 "no such number about a cell" ∈ k2_sels lw_privs ++ tables_1 from List.mem_append_right _ (List.mem_of_getElem? (i := 450) (by decide +kernel)))
theorem wt_2 : Cond.stringRef RX6 109 "the cell is a wall" ∈ lw_tbl := (show Cond.stringRef RX6 109 "the cell is a wall" ∈ k2_sels lw_privs ++ tables_1 from List.mem_append_right _ (List.mem_of_getElem? (i := 462) (by decide +kernel)))
theorem wt_3 : Cond.stringRef RX6 160 "the cell is not free" ∈ lw_tbl := (show Cond.stringRef RX6 160 "the cell is not free" ∈ k2_sels lw_privs ++ tables_1 from List.mem_append_right _ (List.mem_of_getElem? (i := 578) (by decide +kernel)))
theorem wt_4 : Cond.stringRef RX6 165 "there are 16 agents" ∈ lw_tbl := (show Cond.stringRef RX6 165 "there are 16 agents" ∈ k2_sels lw_privs ++ tables_1 from List.mem_append_right _ (List.mem_of_getElem? (i := 583) (by decide +kernel)))
theorem wt_5 : Cond.stringRef RX6 215 "no such number about an agent" ∈ lw_tbl := (show Cond.stringRef RX6 215 "no such number about an agent" ∈ k2_sels lw_privs ++ tables_1 from List.mem_append_right _ (List.mem_of_getElem? (i := 646) (by decide +kernel)))
theorem wt_6 : Cond.stringRef RX6 229 "no such set of agents" ∈ lw_tbl := (show Cond.stringRef RX6 229 "no such set of agents" ∈ k2_sels lw_privs ++ tables_1 from List.mem_append_right _ (List.mem_of_getElem? (i := 671) (by decide +kernel)))
theorem wt_7 : Cond.stringRef RX6 240 "a leader can not be a member" ∈ lw_tbl := (show Cond.stringRef RX6 240 "a leader can not be a member" ∈ k2_sels lw_privs ++ tables_1 from List.mem_append_right _ (List.mem_of_getElem? (i := 691) (by decide +kernel)))
theorem wt_8 : Cond.stringRef RX6 251 "the agent is no member" ∈ lw_tbl := (show Cond.stringRef RX6 251 "the agent is no member" ∈ k2_sels lw_privs ++ tables_1 from List.mem_append_right _ (List.mem_of_getElem? (i := 700) (by decide +kernel)))
theorem wt_9 : Cond.stringRef RX6 253 "the agent is no leader" ∈ lw_tbl := (show Cond.stringRef RX6 253 "the agent is no leader" ∈ k2_sels lw_privs ++ tables_1 from List.mem_append_right _ (List.mem_of_getElem? (i := 708) (by decide +kernel)))
theorem wt_10 : Cond.stringRef RX6 276 "not settled after 100 ticks or fewer" ∈ lw_tbl := (show Cond.stringRef RX6 276 "not settled after 100 ticks or fewer" ∈ k2_sels lw_privs ++ tables_1 from List.mem_append_right _ (List.mem_of_getElem? (i := 768) (by decide +kernel)))
theorem wt_11 : Cond.stringRef RX6 279 "no cell has passes" ∈ lw_tbl := (show Cond.stringRef RX6 279 "no cell has passes" ∈ k2_sels lw_privs ++ tables_1 from List.mem_append_right _ (List.mem_of_getElem? (i := 776) (by decide +kernel)))
theorem wt_12 : Cond.stringRef RX6 289 "no such jam" ∈ lw_tbl := (show Cond.stringRef RX6 289 "no such jam" ∈ k2_sels lw_privs ++ tables_1 from List.mem_append_right _ (List.mem_of_getElem? (i := 790) (by decide +kernel)))
theorem wt_13 : Cond.stringRef RX6 298 "no such number about a jam" ∈ lw_tbl := (show Cond.stringRef RX6 298 "no such number about a jam" ∈ k2_sels lw_privs ++ tables_1 from List.mem_append_right _ (List.mem_of_getElem? (i := 799) (by decide +kernel)))
theorem wt_14 : Cond.stringRef RX6 302 "no agent has a distance from its target" ∈ lw_tbl := (show Cond.stringRef RX6 302 "no agent has a distance from its target" ∈ k2_sels lw_privs ++ tables_1 from List.mem_append_right _ (List.mem_of_getElem? (i := 822) (by decide +kernel)))
theorem wt_15 : Cond.stringRef RX6 305 "all cells are walls" ∈ lw_tbl := (show Cond.stringRef RX6 305 "all cells are walls" ∈ k2_sels lw_privs ++ tables_1 from List.mem_append_right _ (List.mem_of_getElem? (i := 831) (by decide +kernel)))
theorem wt_16 : Cond.stringRef RX6 311 "the buffer holds 150 characters" ∈ lw_tbl := (show Cond.stringRef RX6 311 "the buffer holds 150 characters" ∈ k2_sels lw_privs ++ tables_1 from List.mem_append_right _ (List.mem_of_getElem? (i := 843) (by decide +kernel)))
theorem wt_17 : Cond.stringRef RX6 324 "an agent or a goal is on a new wall" ∈ lw_tbl := (show Cond.stringRef RX6 324 "an agent or a goal is on a new wall" ∈ k2_sels lw_privs ++ tables_1 from List.mem_append_right _ (List.mem_of_getElem? (i := 869) (by decide +kernel)))
theorem wt_18 : Cond.stringRef RX6 326 "no such index" ∈ lw_tbl := (show Cond.stringRef RX6 326 "no such index" ∈ k2_sels lw_privs ++ tables_1 from List.mem_append_right _ (List.mem_of_getElem? (i := 877) (by decide +kernel)))
theorem wt_19 : Cond.stringRef RX6 331 "no change can be taken back" ∈ lw_tbl := (show Cond.stringRef RX6 331 "no change can be taken back" ∈ k2_sels lw_privs ++ tables_1 from List.mem_append_right _ (List.mem_of_getElem? (i := 885) (by decide +kernel)))
theorem wt_20 : Cond.stringRef RX6 336 "nothing was saved" ∈ lw_tbl := (show Cond.stringRef RX6 336 "nothing was saved" ∈ k2_sels lw_privs ++ tables_1 from List.mem_append_right _ (List.mem_of_getElem? (i := 897) (by decide +kernel)))
theorem wt_21 : Cond.stringRef RX6 341 "no such cell" ∈ lw_tbl := (show Cond.stringRef RX6 341 "no such cell" ∈ k2_sels lw_privs ++ tables_1 from List.mem_append_right _ (List.mem_of_getElem? (i := 381) (by decide +kernel)))
theorem wt_22 : Cond.stringRef RX6 343 "no such goal" ∈ lw_tbl := (show Cond.stringRef RX6 343 "no such goal" ∈ k2_sels lw_privs ++ tables_1 from List.mem_append_right _ (List.mem_of_getElem? (i := 461) (by decide +kernel)))
theorem wt_23 : Cond.stringRef RX6 345 "the goal is not set" ∈ lw_tbl := (show Cond.stringRef RX6 345 "the goal is not set" ∈ k2_sels lw_privs ++ tables_1 from List.mem_append_right _ (List.mem_of_getElem? (i := 502) (by decide +kernel)))
theorem wt_24 : Cond.stringRef RX6 347 "no such agent" ∈ lw_tbl := (show Cond.stringRef RX6 347 "no such agent" ∈ k2_sels lw_privs ++ tables_1 from List.mem_append_right _ (List.mem_of_getElem? (i := 599) (by decide +kernel)))
theorem wt_25 : Cond.stringRef RX6 349 "an argument is out of range" ∈ lw_tbl := (show Cond.stringRef RX6 349 "an argument is out of range" ∈ k2_sels lw_privs ++ tables_1 from List.mem_append_right _ (List.mem_of_getElem? (i := 397) (by decide +kernel)))
theorem wi_J0 : Cond.instantiable RJ0 4 ∈ lw_tbl := (show Cond.instantiable RJ0 4 ∈ k2_sels lw_privs ++ tables_1 from List.mem_append_right _ (List.mem_of_getElem? (i := 354) (by decide +kernel)))
theorem wi_Jx : Cond.instantiable RJx00060 6 ∈ lw_tbl := (show Cond.instantiable RJx00060 6 ∈ k2_sels lw_privs ++ tables_1 from List.mem_append_right _ (List.mem_of_getElem? (i := 282) (by decide +kernel)))
theorem wl_U : Cond.laysStatic Bundle.tN "UNASSIGNED_STACK" Bundle.steD ∈ lw_tbl := (show Cond.laysStatic Bundle.tN "UNASSIGNED_STACK" Bundle.steD ∈ k2_sels lw_privs ++ tables_1 from List.mem_append_right _ (List.mem_of_getElem? (i := 299) (by decide +kernel)))
theorem wl_S : Cond.laysStatic Bundle.tN "SUPPRESSED_SENTINEL" Bundle.listD ∈ lw_tbl := (show Cond.laysStatic Bundle.tN "SUPPRESSED_SENTINEL" Bundle.listD ∈ k2_sels lw_privs ++ tables_1 from List.mem_append_right _ (List.mem_of_getElem? (i := 301) (by decide +kernel)))
theorem wi_T : Cond.initialized Bundle.tN ∈ lw_tbl := (show Cond.initialized Bundle.tN ∈ k2_sels lw_privs ++ tables_1 from List.mem_append_right _ (List.mem_of_getElem? (i := 10) (by decide +kernel)))
theorem warr_double : Cond.arrayClass .double ∈ wsL_law := inR1 _ (List.mem_of_getElem? (i := 7) rfl)
theorem warr_long : Cond.arrayClass .long ∈ wsL_law := inR1 _ (List.mem_of_getElem? (i := 6) rfl)
theorem wclL_114 : Cond.classLink RL 114 RX7 ∈ wsL_law := inR1 _ (List.mem_of_getElem? (i := 3) rfl)
theorem wclL_8 : Cond.classLink RL 8 RX6 ∈ wsL_law := inR1 _ (List.mem_of_getElem? (i := 0) rfl)
theorem winiX6 : Cond.initialized RX6 ∈ wsL_law := inR1 _ (List.mem_of_getElem? (i := 2) rfl)
theorem winiX7 : Cond.initialized RX7 ∈ wsL_law := inR1 _ (List.mem_of_getElem? (i := 5) rfl)
theorem winsX6 : Cond.instantiable RX6 8 ∈ wsL_law := inR1 _ (List.mem_of_getElem? (i := 1) rfl)
theorem winsX7 : Cond.instantiable RX7 16 ∈ wsL_law := inR1 _ (List.mem_of_getElem? (i := 4) rfl)
theorem wmL_113 : Cond.methodLink RL 113 yX6_init ∈ wsL_law := inR1 _ (List.mem_of_getElem? (i := 8) rfl)
theorem wmL_116 : Cond.methodLink RL 116 yX7_init ∈ wsL_law := inR4 _ (List.mem_of_getElem? (i := 21) rfl)
section
variable {s : State} {ar : Array Value}
theorem st_ar (t : FieldType) (h : (Cond.arrayClass t).before ar s = true) (hR : ∀ cA, s.vm.findClass ("[" ++ t.toString) = some cA → va_RA s cA t) (hD : ∀ k : Nat, defaultValue t = .ref k → False) : ∃ cA, ArrOfT s cA t ∧ va_RA s cA t := by
  obtain ⟨c, k, comp, h1, h2, h3⟩ := Cond.arrayClass_spec h
  exact ⟨c, fun n z => ⟨fun k h => (by cases h), k, h2, comp, h3⟩, hR c h1⟩
theorem st_ao (C : String) (h : (Cond.arrayOver (.object C)).before ar s = true) : ∃ cA, ArrOfT s cA (.object C) ∧ va_RA s cA (.object C) := by
  obtain ⟨comp, c, k, h1, h2, h3, h4, h5⟩ := Cond.arrayOver_spec h
  exact ⟨c, fun n z => ⟨fun k h => (by cases h), k, h3, comp, h4⟩, k, comp, h3, h4, h1, h5⟩
set_option maxRecDepth 100000 in
set_option maxHeartbeats 4000000 in
theorem st_K (hts : ∀ w ∈ lw_tbl, w.before ar s = true) : ∃ (D : va_G) (G : Nat → ClassId), va_K D vwCl (sT G) s := by
  obtain ⟨c0, i0, h0⟩ := u_known (C := RJ0) (T := TJ0) (N := 2) hts inJ0 (hts _ wi_J0)
  obtain ⟨c1, i1, h1⟩ := u_known (C := RJx00060) (T := TJx00060) (N := 6) hts inJx00060 (hts _ wi_Jx)
  obtain ⟨c2, i2, h2⟩ := u_known (C := RX0) (T := TX0) (N := 3) hts inX0 (hts _ (wsL_law_in _ winsX0))
  obtain ⟨c3, i3, h3⟩ := u_known (C := RX1) (T := TX1) (N := 2) hts inX1 (hts _ (wsL_law_in _ winsX1))
  obtain ⟨c4, i4, h4⟩ := u_known (C := RX2) (T := TX2) (N := 4) hts inX2 (hts _ (wsL_law_in _ winsX2))
  obtain ⟨c5, i5, h5⟩ := u_known (C := RX3) (T := TX3) (N := 3) hts inX3 (hts _ (wsL_law_in _ winsX3))
  obtain ⟨c6, i6, h6⟩ := u_known (C := RX4) (T := TX4) (N := 3) hts inX4 (hts _ (wsL_law_in _ winsX4))
  obtain ⟨c7, i7, h7⟩ := u_known (C := RX5) (T := TX5) (N := 13) hts inX5 (hts _ (wsL_law_in _ winsX5))
  obtain ⟨c8, i8, h8⟩ := u_known (C := RX6) (T := TX6) (N := 8) hts inX6 (hts _ (wsL_law_in _ winsX6))
  obtain ⟨c9, i9, h9⟩ := u_known (C := RX7) (T := TX7) (N := 16) hts inX7 (hts _ (wsL_law_in _ winsX7))
  obtain ⟨g0, a0⟩ := st_ar .int (hts _ (wsL_law_in _ warr_int)) (fun _ h => h) (fun _ h => by cases h)
  obtain ⟨g1, a1⟩ := st_ar .boolean (hts _ (wsL_law_in _ warr_boolean)) (fun _ h => h) (fun _ h => by cases h)
  obtain ⟨g2, a2⟩ := st_ar .char (hts _ (wsL_law_in _ warr_char)) (fun _ h => h) (fun _ h => by cases h)
  obtain ⟨g3, a3⟩ := st_ar .long (hts _ (wsL_law_in _ warr_long)) (fun _ h => h) (fun _ h => by cases h)
  obtain ⟨g4, a4⟩ := st_ar .double (hts _ (wsL_law_in _ warr_double)) (fun _ h => h) (fun _ h => by cases h)
  obtain ⟨g5, a5⟩ := st_ao "CrowdSimulator$Field" (hts _ wo_F)
  obtain ⟨g6, a6⟩ := st_ao "CrowdSimulator$State" (hts _ wo_S)
  refine ⟨(fun k => match k with | 0 => c0 | 1 => c1 | 2 => c2 | 3 => c3 | 4 => c4 | 5 => c5 | 6 => c6 | 7 => c7 | 8 => c8 | _ => c9, fun k => match k with | 0 => i0 | 1 => i1 | 2 => i2 | 3 => i3 | 4 => i4 | 5 => i5 | 6 => i6 | 7 => i7 | 8 => i8 | _ => i9), fun k => match k with | 0 => g0 | 1 => g1 | 2 => g2 | 3 => g3 | 4 => g4 | 5 => g5 | _ => g6, fun k q hq => ?_, fun k q hq => ?_⟩
  · match k, hq with
    | 0, hq =>
      cases hq
      exact h0
    | 1, hq =>
      cases hq
      exact h1
    | 2, hq =>
      cases hq
      exact h2
    | 3, hq =>
      cases hq
      exact h3
    | 4, hq =>
      cases hq
      exact h4
    | 5, hq =>
      cases hq
      exact h5
    | 6, hq =>
      cases hq
      exact h6
    | 7, hq =>
      cases hq
      exact h7
    | 8, hq =>
      cases hq
      exact h8
    | 9, hq =>
      cases hq
      exact h9
    | k + 10, hq => simp [vwCl] at hq
  · match k, hq with
    | 0, hq =>
      cases hq
      exact a0
    | 1, hq =>
      cases hq
      exact a1
    | 2, hq =>
      cases hq
      exact a2
    | 3, hq =>
      cases hq
      exact a3
    | 4, hq =>
      cases hq
      exact a4
    | 5, hq =>
      cases hq
      exact a5
    | 6, hq =>
      cases hq
      exact a6
    | k + 7, hq => simp [sT] at hq
theorem st_str {k cur : Nat} {t : String} (hc : s.vm.findClass RX6 = some cur) (h : (Cond.stringRef RX6 k t).before ar s = true) : ∃ a, vk_R RX6 k t a s := by
  obtain ⟨k1, cf, i, a, -, -, -, -, -, hev⟩ := Cond.stringRef_spec hc h
  exact ⟨a, vk_R.of h hev⟩
set_option maxRecDepth 100000 in
set_option maxHeartbeats 4000000 in
theorem st_U (hts : ∀ w ∈ lw_tbl, w.before ar s = true) : ∃ (D : va_G) (G : Nat → ClassId), sU D G s := by
  obtain ⟨D, G, hK⟩ := st_K hts
  have hc : s.vm.findClass RX6 = some (D.1 8) := (hK.1 8 (RX6, TX6, 8) rfl).2.1
  refine ⟨D, G, hK, fun w hw => ?_, ⟨va_AO.of (hts _ wo_F), va_AO.of (hts _ wo_S)⟩, fun w hw => ?_, fun w hw => ?_, fun q hq => ?_⟩
  · simp only [sNs, List.mem_cons, List.not_mem_nil, or_false] at hw
    rcases hw with rfl | rfl | rfl | rfl | rfl | rfl | rfl | rfl | rfl | rfl | rfl
    · exact va_Nw.of rfl (hts _ wn_0)
    · exact va_Nw.of rfl (hts _ wn_1)
    · exact va_Nw.of rfl (hts _ wn_2)
    · exact va_Nw.of rfl (hts _ wn_3)
    · exact va_Nw.of rfl (hts _ wn_4)
    · exact va_Nw.of rfl (hts _ wn_5)
    · exact va_Nw.of rfl (hts _ wn_6)
    · exact va_Nw.of rfl (hts _ wn_7)
    · exact va_Nw.of rfl (hts _ wn_8)
    · exact va_Nw.of rfl (hts _ wn_9)
    · exact va_Nw.of rfl (hts _ wn_10)
  · simp only [sDecl, List.mem_cons, List.not_mem_nil, or_false] at hw
    rcases hw with rfl | rfl | rfl
    · exact va_Nw.of rfl (hts _ wd_0)
    · exact va_Nw.of rfl (hts _ wd_1)
    · exact va_Nw.of rfl (hts _ wd_2)
  · simp only [sXs, List.mem_cons, List.not_mem_nil, or_false] at hw
    rcases hw with rfl | rfl | rfl | rfl | rfl
    · exact va_Nw.of rfl (hts _ wc_0)
    · exact va_Nw.of rfl (hts _ wc_1)
    · exact va_Nw.of rfl (hts _ wc_2)
    · exact va_Nw.of rfl (hts _ wc_3)
    · exact va_Nw.of rfl (hts _ wc_4)
  · simp only [sStrs, List.mem_cons, List.not_mem_nil, or_false] at hq
    rcases hq with rfl | rfl | rfl | rfl | rfl | rfl | rfl | rfl | rfl | rfl | rfl | rfl | rfl | rfl | rfl | rfl | rfl | rfl | rfl | rfl | rfl | rfl | rfl | rfl | rfl | rfl
    · exact st_str hc (hts _ wt_0)
    · exact st_str hc (hts _ wt_1)
    · exact st_str hc (hts _ wt_2)
    · exact st_str hc (hts _ wt_3)
    · exact st_str hc (hts _ wt_4)
    · exact st_str hc (hts _ wt_5)
    · exact st_str hc (hts _ wt_6)
    · exact st_str hc (hts _ wt_7)
    · exact st_str hc (hts _ wt_8)
    · exact st_str hc (hts _ wt_9)
    · exact st_str hc (hts _ wt_10)
    · exact st_str hc (hts _ wt_11)
    · exact st_str hc (hts _ wt_12)
    · exact st_str hc (hts _ wt_13)
    · exact st_str hc (hts _ wt_14)
    · exact st_str hc (hts _ wt_15)
    · exact st_str hc (hts _ wt_16)
    · exact st_str hc (hts _ wt_17)
    · exact st_str hc (hts _ wt_18)
    · exact st_str hc (hts _ wt_19)
    · exact st_str hc (hts _ wt_20)
    · exact st_str hc (hts _ wt_21)
    · exact st_str hc (hts _ wt_22)
    · exact st_str hc (hts _ wt_23)
    · exact st_str hc (hts _ wt_24)
    · exact st_str hc (hts _ wt_25)
theorem st_Z (hts : ∀ w ∈ lw_tbl, w.before ar s = true) (hgv : (Jvm.Cond.and given_1 narrow_1).before ar s = true) : sZ (fun q => s.heap.size ≤ q) s := by
  have hs := flat_of_before _ hgv
  have h1 : (Cond.isRef (.static Bundle.tN "UNASSIGNED_STACK" Bundle.steD)).before ar s = true := hs _ (by decide +kernel)
  have h2 : (Cond.isRef (.static Bundle.tN "SUPPRESSED_SENTINEL" Bundle.listD)).before ar s = true := hs _ (by decide +kernel)
  exact ⟨vx_Zqof (hts _ wl_U) (hts _ wi_T) h1 (fun a ha => Nat.not_le.mpr ha), vx_Zqof (hts _ wl_S) (hts _ wi_T) h2 (fun a ha => Nat.not_le.mpr ha)⟩
theorem st_Nc (hgv : (Jvm.Cond.and given_1 narrow_1).before ar s = true) : sNc s := by
  have hs := flat_of_before _ hgv
  have h1 : (Cond.not (.castable (exn 2) (exn 1))).before ar s = true := hs _ (by decide +kernel)
  have h2 : (Cond.not (.castable (exn 3) (exn 1))).before ar s = true := hs _ (by decide +kernel)
  have h3 : (Cond.not (.castable (exn 3) (exn 2))).before ar s = true := hs _ (by decide +kernel)
  have h4 : (Cond.not (.castable (exn 4) (exn 1))).before ar s = true := hs _ (by decide +kernel)
  intro w hw
  simp only [List.mem_cons, List.not_mem_nil, or_false] at hw
  rcases hw with rfl | rfl | rfl | rfl
  · exact va_Nc.of h1
  · exact va_Nc.of h2
  · exact va_Nc.of h3
  · exact va_Nc.of h4
end
theorem sz_172 : sz 172 ≤ 100000 := by decide +kernel
theorem sz_660 : sz 660 ≤ 1000000 := by decide +kernel
section
variable {p : Program} {l : Launch} {e : Env} {R : Room} {s : State} {m : MethodId} {args : Array Value} {below : List Frame} {meth : Method} {c : Code} {H : Heap} {locs : List Loc} {cells slots : Nat} {Q : State → Prop} {pc : Nat} {ls : Array Slot} {rest : List Value} {cc : ByteArray} {nL : Nat} {own : String}
variable {D : va_G} {G : Nat → ClassId} {A : Nat → Prop} {H0 : Heap} {ad : Nat → Nat} {r : sR} {v : sV} {n n0 : Nat} {x : Int64 × UInt64} {β : Type} {rez fin : β × sR × sV × Nat}
/-- the law's own cells: a long, a double -/
theorem s_newL (t : Nat) (ty : FieldType) (at0 : ArrayType) (a0 : vp_A) (E : CallFix p m c cc nL s args wsL_law own) (hU : sU D G s) (hB : sB D G A H0 ad r v n x H locs) (hA0 : ∀ q, H0.size ≤ q → A q) (h0 : n0 ≤ n) (hRc : fin.2.2.2 - n0 ≤ R.cells ∧ sz fin.2.2.2 - sz n0 ≤ R.slots) {nn : Int32} {f : sR → sV → Nat → Option (β × sR × sV × Nat)} (hT : ∀ G, (sT G)[t]? = some (G t, ty)) (hty : newarray.typeOf at0 = ty) (hra : ∀ cA U, va_RA U cA ty → U.vm.findClass ("[" ++ ty.toString) = some cA) (harr : Cond.arrayClass (newarray.typeOf at0) ∈ wsL_law)
    (hcell : ∀ (cA : ClassId), vp_cell cA a0 = arrV cA 1 (fun _ => defaultValue ty)) (hC : ∀ (ad : Nat → Nat) (r : sR) (v : sV), sks n = (t + 10, 1) → sC G ad r v x n = .inl (G t, a0)) (hn : ¬ nn < 0) (hN : nn.toNatClampNeg = 1) (hbytes : 1 * componentBytes ty ≤ 536870912) (hdg : decode cc pc = .ok (.newarray at0, 2))
    (hf : ck (sks n = (t + 10, 1) ∧ wf r n) (nw r v n f) = some rez) (he : fin = fz n rez)
    (kk : ∀ (r1 : sR) (v1 : sV) (n1 : Nat) (rez : β × sR × sV × Nat), lv r1 n1 n → f r1 v1 n1 = some rez → fin = fz n1 rez → ∀ ad1 : Nat → Nat, sGo r n ad r1 n1 ad1 → n0 ≤ n1 → sks n = (t + 10, 1) → ∀ (H : Heap), sB D G A H0 ad1 r1 v1 n1 x H locs → W p l e R s m args below meth c H locs (n1 - n0) (sz n1 - sz n0) Q (F0 m (pc + 2) ls (.ref (ad1 n) :: rest))) : W p l e R s m args below meth c H locs (n - n0) (sz n - sz n0) Q (F0 m pc ls (.int nn :: rest)) := by
  obtain ⟨⟨hk, hw⟩, hf⟩ := ck_e hf
  obtain ⟨z1, hf, h2⟩ := ac_e hf
  have he1 := he.trans h2
  have h4 : n + 1 ≤ fin.2.2.2 := by rw [he1]; exact Nat.le_add_right _ _
  have h6 := sz_le h4
  have h7 := sz_le h0
  have h8 : sz (n + 1) = sz n + 1 := by rw [sz_1, hk]
  have e2 : n - n0 + 1 = n + 1 - n0 := by omega
  have e3 : sz n - sz n0 + 1 = sz (n + 1) - sz n0 := by omega
  refine va_newa (atype := at0) (ty := ty) (a0 := a0) E.1 E.2.1 (E.2.2.2.2 _ harr) hty hU.1 hB.1 hB.2.1 hB.2.2 hA0 hcell hn hN hbytes (by omega) (by omega) hdg (fun q cA H1 hK hP hD hS => ?_)
  have hcA : cA = G t := by
    have g1 := hra _ _ (hU.1.2 t _ (hT G)).2
    have g2 := hra _ _ (hK.2 (sT G).length (cA, ty) (by simp)).2
    exact Option.some.inj (g2.symm.trans g1)
  have hpush := sWl_push (G := G) (ad := ad) (v := v) (x := x) hw (q := q) (e := .inl (cA, a0)) (by rw [hcA]; exact (hC _ _ _ hk).symm)
  rw [hpush] at hP hD
  rw [e2, e3]
  have := kk _ _ _ z1 up_lv hf he1 (va_up ad n q) up_go (by omega) hk H1 ⟨hP, hD, hS⟩
  rwa [up_at] at this
end
set_option maxRecDepth 100000 in
set_option maxHeartbeats 4000000 in
theorem whole_go {p : Program} {e : Env} {s : State} {m : MethodId} {below : List Frame} {meth : Method} {c : Code} (l : Launch) (hflags : l.flags = flags0) {b L : Nat} {xs : Nat → Int32} (hL : L ≤ 2560) (C0 : lw_At p s m meth c b L xs) {K : Nat} {z : Unit × sR × sV × Nat} (hz : fSt K (fun _ _ => 0) (fun _ _ => 0) = some z) (hn : z.2.2.2 = 172) (hsh : sSh z.2.1) (hrun : sRun K xs L 512 0 z.2.1 z.2.2.1 172 (0, 0)) : W p l e room_1 s m #[Value.ref b] below meth c s.heap [] 0 0 (lw_Z below #[Value.ref b] s) (entryFrame m ([Value.ref b] : List Value).toArray 9) := by
  obtain ⟨hx, hb, hr, hml, hown, hts0, hX, hbl, hlocks, hgv⟩ := id C0
  obtain ⟨D, G, hU⟩ := st_U hts0
  have hZ := st_Z hts0 hgv
  have hNc := st_Nc hgv
  have hst : l.stackTraces = false := by
    unfold Launch.stackTraces
    rw [hflags]
    decide +kernel
  obtain ⟨A, hAe⟩ : ∃ A : Nat → Prop, A = fun q => s.heap.size ≤ q := ⟨_, rfl⟩
  rw [← hAe] at hZ
  have hA0 : ∀ q, s.heap.size ≤ q → A q := fun q h => by rw [hAe]; exact h
  have hbA : ¬ A b := by rw [hAe]; exact Nat.not_le.mpr hbl
  have hts : ∀ w ∈ wsL_law, w.before #[Value.ref b] s = true := fun w hw => hts0 w (wsL_law_in w hw)
  have E : CallFix p m c cL_law 9 s #[Value.ref b] wsL_law RL := ⟨hx, hb, hml, hown, hts⟩
  have hl := lv_entry ([.ref b]) (n := 9) (Nat.le_of_ble_eq_true rfl)
  rw [lg_entry_eq]
  generalize (lg_sl ([.ref b]) ++ List.replicate (9 - (lg_sl ([.ref b])).length) Slot.unset).toArray = ls at hl ⊢
  have hl : lv_has ls 9 [(0, .ref b)] := hl
  obtain ⟨fin, he⟩ : ∃ fin, fin = fz 0 z := ⟨_, rfl⟩
  have he0 := he
  have hf172 : fin.2.2.2 = 172 := by rw [he]; show 0 + z.2.2.2 = 172; omega
  have z1 := sz_172
  have z2 := sz_660
  have hRc : fin.2.2.2 - 0 ≤ room_1.cells ∧ sz fin.2.2.2 - sz 0 ≤ room_1.slots := by
    rw [hf172]
    exact ⟨Nat.le_of_ble_eq_true rfl, by show sz 172 - sz 0 ≤ 7198826; omega⟩
  have hB : sB D G A s.heap (fun _ => 0) (fun _ _ => 0) (fun _ _ => 0) 0 (0, 0) s.heap [] := by
    refine ⟨fun k q h => ?_, ⟨fun i j p q h => ?_, fun k q h => ?_⟩, va_S.rf⟩ <;> simp [sWl, sLs] at h
  have h0 : 0 ≤ 0 := Nat.le_refl 0
  refine W_00 (n := 0) ?_
  have hf := (fSt.eq_1 ..).symm.trans hz
  refine s_new (ci := 8) E hU hB hA0 h0 hRc sc8 inlX6 wclL_8 winsX6 winiX6 hdef8 dL_law_0 hf he (fun r1 v1 n1 rez hd1 hf he ad1 hg1 h0 hkn1 H hB => ?_)
  refine lv_dup hx hb dL_law_3 rfl ?_
  refine sc_Av hB hA0 h0 hRc hf he (fun q9 h9 hc9 => rI_A (As := []) (rest := [.ref (ad1 0)]) (q := 0) E hU hB (mX6_init l K D G ad1 r1 _ n1 (0, 0) 0 hkn1 hd1 _ _ h9) (cwGI 0 okX6_init wmL_113 hts rfl rfl ⟨Nat.le_of_ble_eq_true rfl, Nat.le_of_ble_eq_true rfl⟩) rfl hl.1 (Nat.le_of_ble_eq_true rfl) dL_law_4 hc9 rfl) (fun r2 v2 n2 rez hf he ad2 hg2 h0 H locs hB => ?_)
  rw [← (hg2.2 0 hd1).2]
  have hd2 := (hg2.2 0 hd1).1
  refine lv_astore_n (lv' := [(1, .ref (ad2 0)), (0, .ref b)]) hx hb dL_law_7 rfl hl (by decide) rfl (fun ls hl => ?_)
  obtain ⟨e2, hf⟩ := ck_e hf
  subst e2
  refine s_new (ci := 9) E hU hB hA0 h0 hRc sc9 inlX7 wclL_114 winsX7 winiX7 hdef9 dL_law_8 hf he (fun r3 v3 n3 rez hd3 hf he ad3 hg3 h0 hkn3 H hB => ?_)
  have hl : lv_has ls 9 [(1, .ref (ad3 0)), (0, .ref b)] := by rw [(hg3.2 0 hd2).2]; exact hl
  have hd2 := (hg3.2 0 hd2).1
  refine lv_dup hx hb dL_law_11 rfl ?_
  refine sc_Av hB hA0 h0 hRc hf he (fun q9 h9 hc9 => rI_A (As := []) (rest := [.ref (ad3 157)]) (q := 157) E hU hB (mX7_init l K D G ad3 r3 _ n3 (0, 0) 157 hkn3 hd3 _ _ h9) (cwGI 0 okX7_init wmL_116 hts rfl rfl ⟨Nat.le_of_ble_eq_true rfl, Nat.le_of_ble_eq_true rfl⟩) rfl hl.1 (Nat.le_of_ble_eq_true rfl) dL_law_12 hc9 rfl) (fun r4 v4 n4 rez hf he ad4 hg4 h0 H locs hB => ?_)
  rw [← (hg4.2 157 hd3).2]
  have hl : lv_has ls 9 [(1, .ref (ad4 0)), (0, .ref b)] := by rw [(hg4.2 0 hd2).2]; exact hl
  have hd2 := (hg4.2 0 hd2).1
  have hd3 := (hg4.2 157 hd3).1
  refine lv_astore_n (lv' := [(2, .ref (ad4 157)), (1, .ref (ad4 0)), (0, .ref b)]) hx hb dL_law_15 rfl hl (by decide) rfl (fun ls hl => ?_)
  obtain ⟨e4, hf⟩ := ck_e hf
  subst e4
  refine lv_iconst (v := 1) hx hb dL_law_16 rfl ?_
  refine s_newL 3 .long .long (1, .inr (.inl (fun _ => 0))) E hU hB hA0 h0 hRc (fun _ => rfl) rfl (fun _ _ h => h) warr_long (fun _ => rfl) (fun ad r v hk => by unfold sC; rw [hk]; rfl) (by decide) rfl (by decide) dL_law_17 hf he (fun r5 v5 n5 rez hd5 hf he ad5 hg5 h0 hkn5 H hB => ?_)
  have hl : lv_has ls 9 [(2, .ref (ad5 157)), (1, .ref (ad5 0)), (0, .ref b)] := by rw [(hg5.2 157 hd3).2, (hg5.2 0 hd2).2]; exact hl
  have hd2 := (hg5.2 0 hd2).1
  have hd3 := (hg5.2 157 hd3).1
  refine lv_astore_n (lv' := [(3, .ref (ad5 170)), (2, .ref (ad5 157)), (1, .ref (ad5 0)), (0, .ref b)]) hx hb dL_law_19 rfl hl (by decide) rfl (fun ls hl => ?_)
  obtain ⟨e5, hf⟩ := ck_e hf
  subst e5
  refine lv_iconst (v := 1) hx hb dL_law_20 rfl ?_
  refine s_newL 4 .double .double (1, .inr (.inr (.inr (.inl (fun _ => 0))))) E hU hB hA0 h0 hRc (fun _ => rfl) rfl (fun _ _ h => h) warr_double (fun _ => rfl) (fun ad r v hk => by unfold sC; rw [hk]; rfl) (by decide) rfl (by decide) dL_law_21 hf he (fun r6 v6 n6 rez hd6 hf he ad6 hg6 h0 hkn6 H hB => ?_)
  have hl : lv_has ls 9 [(3, .ref (ad6 170)), (2, .ref (ad6 157)), (1, .ref (ad6 0)), (0, .ref b)] := by rw [(hg6.2 170 hd5).2, (hg6.2 157 hd3).2, (hg6.2 0 hd2).2]; exact hl
  refine lv_astore (lv' := [(4, .ref (ad6 171)), (3, .ref (ad6 170)), (2, .ref (ad6 157)), (1, .ref (ad6 0)), (0, .ref b)]) hx hb dL_law_23 hl (by decide) rfl (fun ls hl => ?_)
  refine lv_iconst (v := 0) hx hb dL_law_25 rfl ?_
  refine lv_istore (lv' := [(5, .int 0), (4, .ref (ad6 171)), (3, .ref (ad6 170)), (2, .ref (ad6 157)), (1, .ref (ad6 0)), (0, .ref b)]) hx hb dL_law_26 hl (by decide) rfl (fun ls hl => ?_)
  cases hf
  have he6 : fz 0 z = ((), r6, v6, n6) := he0.symm.trans he
  have er : z.2.1 = r6 := congrArg (fun q => q.2.1) he6
  have ev : z.2.2.1 = v6 := congrArg (fun q => q.2.2.1) he6
  have en : n6 = 172 := by
    have : 0 + z.2.2.2 = n6 := congrArg (fun q => q.2.2.2) he6
    omega
  rw [er] at hsh hrun
  rw [ev] at hrun
  subst en
  refine law_loop K E hU hNc hZ hA0 hst hX hbl hbA hL ⟨Nat.le_of_ble_eq_true rfl, Nat.le_of_ble_eq_true rfl⟩ (fun H locs cells slots ls hc hs hS => ?_) 512 0 r6 v6 172 (0, 0) ad6 H locs ls _ _ (Nat.zero_le L) (by omega) hrun hsh (Nat.le_refl _) (by omega) ?_ ?_ hl hB
  · refine lv_iconst (v := 1) hx hb dL_law_2033 rfl ?_
    refine va_forget (fun q hq => by have := hS.2.2 q hq; rw [hAe] at this; exact this) ?_
    exact W.widen hc hs (lw_ret (d0 := s.drawn) (Drawn.sameBut.refl s.drawn lw_cs) hx hb hr hlocks dL_law_2034)
  · show 172 - 0 + (660 - 172) + 512 ≤ 603072
    omega
  · show sz 172 - sz 0 + (sz 660 - sz 172) + 6 * 512 ≤ 7198826
    omega
