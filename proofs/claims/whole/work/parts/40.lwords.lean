abbrev rmL (c s : Nat) : Room := { frames := 11, cells := c, slots := s, locals := 280 }
theorem wcL_13 : Cond.classLink RL 13 "java/lang/IndexOutOfBoundsException" ∈ wsL_law := inR5 _ (List.mem_of_getElem? (i := 18) rfl)
theorem wcL_15 : Cond.classLink RL 15 "java/lang/IllegalArgumentException" ∈ wsL_law := inR5 _ (List.mem_of_getElem? (i := 19) rfl)
theorem wcL_17 : Cond.classLink RL 17 "java/lang/IllegalStateException" ∈ wsL_law := inR5 _ (List.mem_of_getElem? (i := 20) rfl)
theorem wcL_29 : Cond.classLink RL 29 "java/util/NoSuchElementException" ∈ wsL_law := inR13 _ (List.mem_of_getElem? (i := 6) rfl)
theorem wcL_90 : Cond.classLink RL 90 "java/lang/ArithmeticException" ∈ wsL_law := inR35 _ (List.mem_of_getElem? (i := 0) rfl)
theorem wmL_100 : Cond.methodLink RL 100 yX6_readMap ∈ wsL_law := inR37 _ (List.mem_of_getElem? (i := 2) rfl)
theorem wmL_103 : Cond.methodLink RL 103 yX6_map ∈ wsL_law := inR38 _ (List.mem_of_getElem? (i := 6) rfl)
theorem wmL_107 : Cond.methodLink RL 107 yX6_undo ∈ wsL_law := inR38 _ (List.mem_of_getElem? (i := 17) rfl)
theorem wmL_110 : Cond.methodLink RL 110 yX6_restore ∈ wsL_law := inR39 _ (List.mem_of_getElem? (i := 18) rfl)
theorem wmL_19 : Cond.methodLink RL 19 yX6_cell ∈ wsL_law := inR10 _ (List.mem_of_getElem? (i := 5) rfl)
theorem wmL_22 : Cond.methodLink RL 22 yX6_setGoal ∈ wsL_law := inR10 _ (List.mem_of_getElem? (i := 19) rfl)
theorem wmL_25 : Cond.methodLink RL 25 yX6_dropGoal ∈ wsL_law := inR13 _ (List.mem_of_getElem? (i := 7) rfl)
theorem wmL_31 : Cond.methodLink RL 31 yX6_distance ∈ wsL_law := inR14 _ (List.mem_of_getElem? (i := 5) rfl)
theorem wmL_34 : Cond.methodLink RL 34 yX6_flow ∈ wsL_law := inR15 _ (List.mem_of_getElem? (i := 4) rfl)
theorem wmL_37 : Cond.methodLink RL 37 yX6_steps ∈ wsL_law := inR16 _ (List.mem_of_getElem? (i := 0) rfl)
theorem wmL_40 : Cond.methodLink RL 40 yX6_setPatience ∈ wsL_law := inR16 _ (List.mem_of_getElem? (i := 16) rfl)
theorem wmL_43 : Cond.methodLink RL 43 yX6_add ∈ wsL_law := inR17 _ (List.mem_of_getElem? (i := 4) rfl)
theorem wmL_47 : Cond.methodLink RL 47 yX6_remove ∈ wsL_law := inR18 _ (List.mem_of_getElem? (i := 23) rfl)
theorem wmL_50 : Cond.methodLink RL 50 yX6_change ∈ wsL_law := inR20 _ (List.mem_of_getElem? (i := 5) rfl)
theorem wmL_54 : Cond.methodLink RL 54 yX6_agent ∈ wsL_law := inR20 _ (List.mem_of_getElem? (i := 17) rfl)
theorem wmL_58 : Cond.methodLink RL 58 yX6_agents ∈ wsL_law := inR23 _ (List.mem_of_getElem? (i := 2) rfl)
theorem wmL_61 : Cond.methodLink RL 61 yX6_join ∈ wsL_law := inR24 _ (List.mem_of_getElem? (i := 19) rfl)
theorem wmL_64 : Cond.methodLink RL 64 yX6_leave ∈ wsL_law := inR25 _ (List.mem_of_getElem? (i := 21) rfl)
theorem wmL_67 : Cond.methodLink RL 67 yX6_disorder ∈ wsL_law := inR26 _ (List.mem_of_getElem? (i := 8) rfl)
theorem wmL_7 : Cond.methodLink RL 7 yX6_setCell ∈ wsL_law := inR5 _ (List.mem_of_getElem? (i := 21) rfl)
theorem wmL_70 : Cond.methodLink RL 70 yX6_tick ∈ wsL_law := inR27 _ (List.mem_of_getElem? (i := 5) rfl)
theorem wmL_73 : Cond.methodLink RL 73 yX6_statistic ∈ wsL_law := inR30 _ (List.mem_of_getElem? (i := 20) rfl)
theorem wmL_76 : Cond.methodLink RL 76 yX6_forecast ∈ wsL_law := inR31 _ (List.mem_of_getElem? (i := 7) rfl)
theorem wmL_79 : Cond.methodLink RL 79 yX6_bottleneck ∈ wsL_law := inR31 _ (List.mem_of_getElem? (i := 20) rfl)
theorem wmL_83 : Cond.methodLink RL 83 yX6_jam ∈ wsL_law := inR33 _ (List.mem_of_getElem? (i := 15) rfl)
theorem wmL_86 : Cond.methodLink RL 86 yX6_meanDistance ∈ wsL_law := inR35 _ (List.mem_of_getElem? (i := 1) rfl)
theorem wmL_92 : Cond.methodLink RL 92 yX6_density ∈ wsL_law := inR35 _ (List.mem_of_getElem? (i := 17) rfl)
theorem wmL_96 : Cond.methodLink RL 96 yX6_feed ∈ wsL_law := inR36 _ (List.mem_of_getElem? (i := 4) rfl)
noncomputable def fL_setCell (K : Nat) (x1 : Int32) (x2 : Int32) (x3 : Int32) (r : sR) (v : sV) (n : Nat) (x : Int64 × UInt64) : Option ((Int32 × (Int64 × UInt64)) × sR × sV × Nat) :=
  (fX6_setCell K x1 x2 x3 r v n).bind fun q => acC q n (fun y r v n => some ((0, (y.toInt64, x.2)), r, v, 0)) (fun k => if k = 1 then some (1, x) else if k = 2 then some (2, x) else if k = 3 then some (3, x) else none)
noncomputable def fL_cell (K : Nat) (x1 : Int32) (x2 : Int32) (x3 : Int32) (r : sR) (v : sV) (n : Nat) (x : Int64 × UInt64) : Option ((Int32 × (Int64 × UInt64)) × sR × sV × Nat) :=
  (fX6_cell K x1 x2 x3 r v n).bind fun q => acC q n (fun y r v n => some ((0, (y.toInt64, x.2)), r, v, 0)) (fun k => if k = 1 then some (1, x) else if k = 2 then some (2, x) else none)
noncomputable def fL_setGoal (K : Nat) (x1 : Int32) (x2 : Int32) (x3 : Int32) (r : sR) (v : sV) (n : Nat) (x : Int64 × UInt64) : Option ((Int32 × (Int64 × UInt64)) × sR × sV × Nat) :=
  (fX6_setGoal K x1 x2 x3 r v n).bind fun q => acC q n (fun y r v n => some ((0, (y.toInt64, x.2)), r, v, 0)) (fun k => if k = 1 then some (1, x) else if k = 3 then some (2, x) else none)
noncomputable def fL_dropGoal (K : Nat) (x1 : Int32) (r : sR) (v : sV) (n : Nat) (x : Int64 × UInt64) : Option ((Int32 × (Int64 × UInt64)) × sR × sV × Nat) :=
  (fX6_dropGoal K x1 r v n).bind fun q => acC q n (fun y r v n => some ((0, (y.toInt64, x.2)), r, v, 0)) (fun k => if k = 1 then some (1, x) else if k = 4 then some (2, x) else none)
noncomputable def fL_distance (K : Nat) (x1 : Int32) (x2 : Int32) (x3 : Int32) (r : sR) (v : sV) (n : Nat) (x : Int64 × UInt64) : Option ((Int32 × (Int64 × UInt64)) × sR × sV × Nat) :=
  (fX6_distance K x1 x2 x3 r v n).bind fun q => acC q n (fun y r v n => some ((0, (y.toInt64, x.2)), r, v, 0)) (fun k => if k = 1 then some (1, x) else if k = 4 then some (2, x) else none)
noncomputable def fL_flow (K : Nat) (x1 : Int32) (x2 : Int32) (x3 : Int32) (r : sR) (v : sV) (n : Nat) (x : Int64 × UInt64) : Option ((Int32 × (Int64 × UInt64)) × sR × sV × Nat) :=
  (fX6_flow K x1 x2 x3 r v n).bind fun q => acC q n (fun y r v n => some ((0, (y.toInt64, x.2)), r, v, 0)) (fun k => if k = 1 then some (1, x) else if k = 4 then some (2, x) else none)
noncomputable def fL_steps (K : Nat) (x1 : Int32) (x2 : Int32) (x3 : Int32) (r : sR) (v : sV) (n : Nat) (x : Int64 × UInt64) : Option ((Int32 × (Int64 × UInt64)) × sR × sV × Nat) :=
  (fX6_steps K x1 x2 x3 r v n).bind fun q => acC q n (fun y r v n => some ((0, (y.toInt64, x.2)), r, v, 0)) (fun k => if k = 1 then some (1, x) else if k = 4 then some (2, x) else none)
noncomputable def fL_setPatience (K : Nat) (x1 : Int32) (r : sR) (v : sV) (n : Nat) (x : Int64 × UInt64) : Option ((Int32 × (Int64 × UInt64)) × sR × sV × Nat) :=
  (fX6_setPatience K x1 r v n).bind fun q => acC q n (fun y r v n => some ((0, (y.toInt64, x.2)), r, v, 0)) (fun k => if k = 2 then some (1, x) else none)
noncomputable def fL_add (K : Nat) (x1 : Int32) (x2 : Int32) (x3 : Int32) (x4 : Int32) (r : sR) (v : sV) (n : Nat) (x : Int64 × UInt64) : Option ((Int32 × (Int64 × UInt64)) × sR × sV × Nat) :=
  (fX6_add K x1 x2 x3 x4 r v n).bind fun q => acC q n (fun y r v n => some ((0, (y.toInt64, x.2)), r, v, 0)) (fun k => if k = 1 then some (1, x) else if k = 2 then some (2, x) else if k = 3 then some (3, x) else none)
noncomputable def fL_remove (K : Nat) (x1 : Int32) (r : sR) (v : sV) (n : Nat) (x : Int64 × UInt64) : Option ((Int32 × (Int64 × UInt64)) × sR × sV × Nat) :=
  (fX6_remove K x1 r v n).bind fun q => acC q n (fun y r v n => some ((0, (y.toInt64, x.2)), r, v, 0)) (fun k => if k = 1 then some (1, x) else none)
noncomputable def fL_change (K : Nat) (x1 : Int32) (x2 : Int32) (x3 : Int32) (r : sR) (v : sV) (n : Nat) (x : Int64 × UInt64) : Option ((Int32 × (Int64 × UInt64)) × sR × sV × Nat) :=
  (fX6_change K x1 x2 x3 r v n).bind fun q => acC q n (fun y r v n => some ((0, (y.toInt64, x.2)), r, v, 0)) (fun k => if k = 1 then some (1, x) else if k = 2 then some (2, x) else none)
noncomputable def fL_agent (K : Nat) (x1 : Int32) (x2 : Int32) (r : sR) (v : sV) (n : Nat) (x : Int64 × UInt64) : Option ((Int32 × (Int64 × UInt64)) × sR × sV × Nat) :=
  (fX6_agent K x1 x2 r v n).bind fun q => acC q n (fun y r v n => some ((0, (y.toInt64, x.2)), r, v, 0)) (fun k => if k = 1 then some (1, x) else if k = 2 then some (2, x) else none)
noncomputable def fL_agents (K : Nat) (x1 : Int32) (r : sR) (v : sV) (n : Nat) (x : Int64 × UInt64) : Option ((Int32 × (Int64 × UInt64)) × sR × sV × Nat) :=
  (fX6_agents K x1 r v n).bind fun q => acC q n (fun y r v n => some ((0, (y.toInt64, x.2)), r, v, 0)) (fun k => if k = 2 then some (1, x) else none)
noncomputable def fL_join (K : Nat) (x1 : Int32) (x2 : Int32) (x3 : Int32) (x4 : Int32) (r : sR) (v : sV) (n : Nat) (x : Int64 × UInt64) : Option ((Int32 × (Int64 × UInt64)) × sR × sV × Nat) :=
  (fX6_join K x1 x2 x3 x4 r v n).bind fun q => acC q n (fun y r v n => some ((0, (y.toInt64, x.2)), r, v, 0)) (fun k => if k = 1 then some (1, x) else if k = 2 then some (2, x) else if k = 3 then some (3, x) else none)
noncomputable def fL_leave (K : Nat) (x1 : Int32) (r : sR) (v : sV) (n : Nat) (x : Int64 × UInt64) : Option ((Int32 × (Int64 × UInt64)) × sR × sV × Nat) :=
  (fX6_leave K x1 r v n).bind fun q => acC q n (fun y r v n => some ((0, (y.toInt64, x.2)), r, v, 0)) (fun k => if k = 1 then some (1, x) else if k = 3 then some (2, x) else none)
noncomputable def fL_disorder (K : Nat) (x1 : Int32) (r : sR) (v : sV) (n : Nat) (x : Int64 × UInt64) : Option ((Int32 × (Int64 × UInt64)) × sR × sV × Nat) :=
  (fX6_disorder K x1 r v n).bind fun q => acC q n (fun y r v n => some ((0, (y.toInt64, x.2)), r, v, 0)) (fun k => if k = 1 then some (1, x) else if k = 3 then some (2, x) else none)
noncomputable def fL_tick (K : Nat) (x1 : Int32) (r : sR) (v : sV) (n : Nat) (x : Int64 × UInt64) : Option ((Int32 × (Int64 × UInt64)) × sR × sV × Nat) :=
  (fX6_tick K x1 r v n).bind fun q => acC q n (fun y r v n => some ((0, (y.toInt64, x.2)), r, v, 0)) (fun k => if k = 2 then some (1, x) else none)
noncomputable def fL_statistic (x1 : Int32) (r : sR) (v : sV) (n : Nat) (x : Int64 × UInt64) : Option ((Int32 × (Int64 × UInt64)) × sR × sV × Nat) :=
  (fX6_statistic x1 r v n).bind fun q => acC q n (fun y r v n => some ((0, (y.toInt64, x.2)), r, v, 0)) (fun k => if k = 2 then some (1, x) else none)
noncomputable def fL_forecast (K : Nat) (x1 : Int32) (r : sR) (v : sV) (n : Nat) (x : Int64 × UInt64) : Option ((Int32 × (Int64 × UInt64)) × sR × sV × Nat) :=
  (fX6_forecast K x1 r v n).bind fun q => acC q n (fun y r v n => some ((0, (y.toInt64, x.2)), r, v, 0)) (fun k => if k = 1 then some (1, x) else if k = 4 then some (2, x) else none)
noncomputable def fL_bottleneck (K : Nat) (r : sR) (v : sV) (n : Nat) (x : Int64 × UInt64) : Option ((Int32 × (Int64 × UInt64)) × sR × sV × Nat) :=
  (fX6_bottleneck K r v n).bind fun q => acC q n (fun y r v n => some ((0, (y.toInt64, x.2)), r, v, 0)) (fun k => if k = 4 then some (1, x) else none)
noncomputable def fL_jam (K : Nat) (x1 : Int32) (x2 : Int32) (r : sR) (v : sV) (n : Nat) (x : Int64 × UInt64) : Option ((Int32 × (Int64 × UInt64)) × sR × sV × Nat) :=
  (fX6_jam K x1 x2 r v n).bind fun q => acC q n (fun y r v n => some ((0, (y.toInt64, x.2)), r, v, 0)) (fun k => if k = 1 then some (1, x) else if k = 2 then some (2, x) else none)
noncomputable def fL_meanDistance (K : Nat) (r : sR) (v : sV) (n : Nat) (x : Int64 × UInt64) : Option ((Int32 × (Int64 × UInt64)) × sR × sV × Nat) :=
  (fX6_meanDistance K r v n).bind fun q => acC q n (fun y r v n => some ((0, (x.1, y)), r, v, 0)) (fun k => if k = 5 then some (1, x) else none)
noncomputable def fL_density (K : Nat) (r : sR) (v : sV) (n : Nat) (x : Int64 × UInt64) : Option ((Int32 × (Int64 × UInt64)) × sR × sV × Nat) :=
  (fX6_density K r v n).bind fun q => acC q n (fun y r v n => fdd y fun y => some ((0, (x.1, y)), r, v, 0)) (fun k => if k = 5 then some (1, x) else none)
noncomputable def fL_feed (x1 : Int32) (r : sR) (v : sV) (n : Nat) (x : Int64 × UInt64) : Option ((Int32 × (Int64 × UInt64)) × sR × sV × Nat) :=
  (fX6_feed x1 r v n).bind fun q => acC q n (fun y r v n => some ((0, (y.toInt64, x.2)), r, v, 0)) (fun k => if k = 3 then some (1, x) else none)
noncomputable def fL_readMap (K : Nat) (r : sR) (v : sV) (n : Nat) (x : Int64 × UInt64) : Option ((Int32 × (Int64 × UInt64)) × sR × sV × Nat) :=
  (fX6_readMap K r v n).bind fun q => acC q n (fun y r v n => some ((0, (y.toInt64, x.2)), r, v, 0)) (fun k => if k = 3 then some (1, x) else none)
noncomputable def fL_map (x1 : Int32) (r : sR) (v : sV) (n : Nat) (x : Int64 × UInt64) : Option ((Int32 × (Int64 × UInt64)) × sR × sV × Nat) :=
  (fX6_map x1 r v n).bind fun q => acC q n (fun y r v n => some ((0, (y.toInt64, x.2)), r, v, 0)) (fun k => if k = 1 then some (1, x) else none)
noncomputable def fL_undo (K : Nat) (r : sR) (v : sV) (n : Nat) (x : Int64 × UInt64) : Option ((Int32 × (Int64 × UInt64)) × sR × sV × Nat) :=
  (fX6_undo K r v n).bind fun q => acC q n (fun y r v n => some ((0, (y.toInt64, x.2)), r, v, 0)) (fun k => if k = 3 then some (1, x) else none)
noncomputable def fL_restore (K : Nat) (r : sR) (v : sV) (n : Nat) (x : Int64 × UInt64) : Option ((Int32 × (Int64 × UInt64)) × sR × sV × Nat) :=
  (fX6_restore K r v n).bind fun q => acC q n (fun y r v n => some ((0, (y.toInt64, x.2)), r, v, 0)) (fun k => if k = 3 then some (1, x) else none)
