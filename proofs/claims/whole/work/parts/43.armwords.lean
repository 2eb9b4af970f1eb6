theorem wmL_117 : Cond.methodLink RL 117 yL_setCell ∈ wsL_law := inR5 _ (List.mem_of_getElem? (i := 14) rfl)
theorem wmL_122 : Cond.methodLink RL 122 yX7_setCell ∈ wsL_law := inR8 _ (List.mem_of_getElem? (i := 7) rfl)
theorem wmL_123 : Cond.methodLink RL 123 yX7_thrown ∈ wsL_law := inR9 _ (List.mem_of_getElem? (i := 22) rfl)
theorem wmL_126 : Cond.methodLink RL 126 yL_cell ∈ wsL_law := inR10 _ (List.mem_of_getElem? (i := 2) rfl)
theorem wmL_128 : Cond.methodLink RL 128 yX7_cell ∈ wsL_law := inR10 _ (List.mem_of_getElem? (i := 12) rfl)
theorem wmL_129 : Cond.methodLink RL 129 yL_setGoal ∈ wsL_law := inR10 _ (List.mem_of_getElem? (i := 16) rfl)
theorem wmL_131 : Cond.methodLink RL 131 yX7_setGoal ∈ wsL_law := inR11 _ (List.mem_of_getElem? (i := 23) rfl)
theorem wmL_132 : Cond.methodLink RL 132 yL_dropGoal ∈ wsL_law := inR13 _ (List.mem_of_getElem? (i := 3) rfl)
theorem wmL_135 : Cond.methodLink RL 135 yX7_dropGoal ∈ wsL_law := inR13 _ (List.mem_of_getElem? (i := 22) rfl)
theorem wmL_136 : Cond.methodLink RL 136 yL_distance ∈ wsL_law := inR14 _ (List.mem_of_getElem? (i := 2) rfl)
theorem wmL_138 : Cond.methodLink RL 138 yX7_distance ∈ wsL_law := inR14 _ (List.mem_of_getElem? (i := 17) rfl)
theorem wmL_139 : Cond.methodLink RL 139 yL_flow ∈ wsL_law := inR15 _ (List.mem_of_getElem? (i := 1) rfl)
theorem wmL_141 : Cond.methodLink RL 141 yX7_flow ∈ wsL_law := inR15 _ (List.mem_of_getElem? (i := 13) rfl)
theorem wmL_142 : Cond.methodLink RL 142 yL_steps ∈ wsL_law := inR15 _ (List.mem_of_getElem? (i := 21) rfl)
theorem wmL_144 : Cond.methodLink RL 144 yX7_steps ∈ wsL_law := inR16 _ (List.mem_of_getElem? (i := 9) rfl)
theorem wmL_145 : Cond.methodLink RL 145 yL_setPatience ∈ wsL_law := inR16 _ (List.mem_of_getElem? (i := 13) rfl)
theorem wmL_147 : Cond.methodLink RL 147 yX7_setPatience ∈ wsL_law := inR16 _ (List.mem_of_getElem? (i := 21) rfl)
theorem wmL_148 : Cond.methodLink RL 148 yL_add ∈ wsL_law := inR17 _ (List.mem_of_getElem? (i := 1) rfl)
theorem wmL_151 : Cond.methodLink RL 151 yX7_add ∈ wsL_law := inR18 _ (List.mem_of_getElem? (i := 8) rfl)
theorem wmL_152 : Cond.methodLink RL 152 yL_remove ∈ wsL_law := inR18 _ (List.mem_of_getElem? (i := 20) rfl)
theorem wmL_154 : Cond.methodLink RL 154 yX7_remove ∈ wsL_law := inR19 _ (List.mem_of_getElem? (i := 22) rfl)
theorem wmL_155 : Cond.methodLink RL 155 yL_change ∈ wsL_law := inR20 _ (List.mem_of_getElem? (i := 2) rfl)
theorem wmL_158 : Cond.methodLink RL 158 yX7_change ∈ wsL_law := inR20 _ (List.mem_of_getElem? (i := 10) rfl)
theorem wmL_159 : Cond.methodLink RL 159 yL_agent ∈ wsL_law := inR20 _ (List.mem_of_getElem? (i := 14) rfl)
theorem wmL_162 : Cond.methodLink RL 162 yX7_agent ∈ wsL_law := inR22 _ (List.mem_of_getElem? (i := 7) rfl)
theorem wmL_163 : Cond.methodLink RL 163 yL_agents ∈ wsL_law := inR22 _ (List.mem_of_getElem? (i := 23) rfl)
theorem wmL_165 : Cond.methodLink RL 165 yX7_agents ∈ wsL_law := inR24 _ (List.mem_of_getElem? (i := 4) rfl)
theorem wmL_166 : Cond.methodLink RL 166 yL_join ∈ wsL_law := inR24 _ (List.mem_of_getElem? (i := 16) rfl)
theorem wmL_168 : Cond.methodLink RL 168 yX7_join ∈ wsL_law := inR25 _ (List.mem_of_getElem? (i := 14) rfl)
theorem wmL_169 : Cond.methodLink RL 169 yL_leave ∈ wsL_law := inR25 _ (List.mem_of_getElem? (i := 18) rfl)
theorem wmL_171 : Cond.methodLink RL 171 yX7_leave ∈ wsL_law := inR26 _ (List.mem_of_getElem? (i := 1) rfl)
theorem wmL_172 : Cond.methodLink RL 172 yL_disorder ∈ wsL_law := inR26 _ (List.mem_of_getElem? (i := 5) rfl)
theorem wmL_174 : Cond.methodLink RL 174 yX7_disorder ∈ wsL_law := inR26 _ (List.mem_of_getElem? (i := 18) rfl)
theorem wmL_175 : Cond.methodLink RL 175 yL_tick ∈ wsL_law := inR27 _ (List.mem_of_getElem? (i := 2) rfl)
theorem wmL_177 : Cond.methodLink RL 177 yX7_tick ∈ wsL_law := inR29 _ (List.mem_of_getElem? (i := 1) rfl)
theorem wmL_178 : Cond.methodLink RL 178 yL_statistic ∈ wsL_law := inR30 _ (List.mem_of_getElem? (i := 17) rfl)
theorem wmL_180 : Cond.methodLink RL 180 yX7_statistic ∈ wsL_law := inR31 _ (List.mem_of_getElem? (i := 0) rfl)
theorem wmL_181 : Cond.methodLink RL 181 yL_forecast ∈ wsL_law := inR31 _ (List.mem_of_getElem? (i := 4) rfl)
theorem wmL_183 : Cond.methodLink RL 183 yX7_forecast ∈ wsL_law := inR31 _ (List.mem_of_getElem? (i := 13) rfl)
theorem wmL_184 : Cond.methodLink RL 184 yL_bottleneck ∈ wsL_law := inR31 _ (List.mem_of_getElem? (i := 17) rfl)
theorem wmL_187 : Cond.methodLink RL 187 yX7_bottleneck ∈ wsL_law := inR32 _ (List.mem_of_getElem? (i := 0) rfl)
theorem wmL_188 : Cond.methodLink RL 188 yX6_jams ∈ wsL_law := inR32 _ (List.mem_of_getElem? (i := 4) rfl)
theorem wmL_191 : Cond.methodLink RL 191 yX7_jams ∈ wsL_law := inR32 _ (List.mem_of_getElem? (i := 21) rfl)
theorem wmL_192 : Cond.methodLink RL 192 yL_jam ∈ wsL_law := inR33 _ (List.mem_of_getElem? (i := 12) rfl)
theorem wmL_194 : Cond.methodLink RL 194 yX7_jam ∈ wsL_law := inR34 _ (List.mem_of_getElem? (i := 9) rfl)
theorem wmL_195 : Cond.methodLink RL 195 yL_meanDistance ∈ wsL_law := inR34 _ (List.mem_of_getElem? (i := 21) rfl)
theorem wmL_198 : Cond.methodLink RL 198 yX7_meanDistance ∈ wsL_law := inR35 _ (List.mem_of_getElem? (i := 7) rfl)
theorem wmL_199 : Cond.methodLink RL 199 yL_density ∈ wsL_law := inR35 _ (List.mem_of_getElem? (i := 14) rfl)
theorem wmL_201 : Cond.methodLink RL 201 yX7_density ∈ wsL_law := inR35 _ (List.mem_of_getElem? (i := 21) rfl)
theorem wmL_202 : Cond.methodLink RL 202 yL_feed ∈ wsL_law := inR36 _ (List.mem_of_getElem? (i := 1) rfl)
theorem wmL_205 : Cond.methodLink RL 205 yX7_feed ∈ wsL_law := inR36 _ (List.mem_of_getElem? (i := 18) rfl)
theorem wmL_206 : Cond.methodLink RL 206 yL_readMap ∈ wsL_law := inR36 _ (List.mem_of_getElem? (i := 23) rfl)
theorem wmL_208 : Cond.methodLink RL 208 yX7_readMap ∈ wsL_law := inR37 _ (List.mem_of_getElem? (i := 19) rfl)
theorem wmL_209 : Cond.methodLink RL 209 yL_map ∈ wsL_law := inR38 _ (List.mem_of_getElem? (i := 3) rfl)
theorem wmL_211 : Cond.methodLink RL 211 yX7_map ∈ wsL_law := inR38 _ (List.mem_of_getElem? (i := 10) rfl)
theorem wmL_212 : Cond.methodLink RL 212 yL_undo ∈ wsL_law := inR38 _ (List.mem_of_getElem? (i := 14) rfl)
theorem wmL_214 : Cond.methodLink RL 214 yX7_undo ∈ wsL_law := inR39 _ (List.mem_of_getElem? (i := 2) rfl)
theorem wmL_215 : Cond.methodLink RL 215 yX6_save ∈ wsL_law := inR39 _ (List.mem_of_getElem? (i := 6) rfl)
theorem wmL_218 : Cond.methodLink RL 218 yX7_save ∈ wsL_law := inR39 _ (List.mem_of_getElem? (i := 10) rfl)
theorem wmL_219 : Cond.methodLink RL 219 yL_restore ∈ wsL_law := inR39 _ (List.mem_of_getElem? (i := 15) rfl)
theorem wmL_221 : Cond.methodLink RL 221 yX7_restore ∈ wsL_law := inR40 _ (List.mem_of_getElem? (i := 2) rfl)
theorem okL_setCell : sOkH yL_setCell cL_setCell 6 (some .int) [(0, 12, 15, 13), (0, 12, 19, 15), (0, 12, 23, 17)] 5 := ⟨⟨inR5 _ (List.mem_of_getElem? (i := 17) rfl), inR5 _ (List.mem_of_getElem? (i := 16) rfl), by decide +kernel⟩, inR5 _ (List.mem_of_getElem? (i := 15) rfl)⟩
theorem okL_cell : sOkH yL_cell cL_cell 6 (some .int) [(0, 12, 15, 13), (0, 12, 19, 15)] 5 := ⟨⟨inR10 _ (List.mem_of_getElem? (i := 4) rfl), inR5 _ (List.mem_of_getElem? (i := 16) rfl), by decide +kernel⟩, inR10 _ (List.mem_of_getElem? (i := 3) rfl)⟩
theorem okL_setGoal : sOkH yL_setGoal cL_setGoal 6 (some .int) [(0, 12, 15, 13), (0, 12, 19, 17)] 5 := ⟨⟨inR10 _ (List.mem_of_getElem? (i := 18) rfl), inR5 _ (List.mem_of_getElem? (i := 16) rfl), by decide +kernel⟩, inR10 _ (List.mem_of_getElem? (i := 17) rfl)⟩
theorem okL_dropGoal : sOkH yL_dropGoal cL_dropGoal 4 (some .int) [(0, 9, 12, 13), (0, 9, 15, 29)] 3 := ⟨⟨inR13 _ (List.mem_of_getElem? (i := 5) rfl), inR5 _ (List.mem_of_getElem? (i := 16) rfl), by decide +kernel⟩, inR13 _ (List.mem_of_getElem? (i := 4) rfl)⟩
theorem okL_distance : sOkH yL_distance cL_distance 6 (some .int) [(0, 12, 15, 13), (0, 12, 19, 29)] 5 := ⟨⟨inR14 _ (List.mem_of_getElem? (i := 4) rfl), inR5 _ (List.mem_of_getElem? (i := 16) rfl), by decide +kernel⟩, inR14 _ (List.mem_of_getElem? (i := 3) rfl)⟩
theorem okL_flow : sOkH yL_flow cL_flow 6 (some .int) [(0, 12, 15, 13), (0, 12, 19, 29)] 5 := ⟨⟨inR15 _ (List.mem_of_getElem? (i := 3) rfl), inR5 _ (List.mem_of_getElem? (i := 16) rfl), by decide +kernel⟩, inR15 _ (List.mem_of_getElem? (i := 2) rfl)⟩
theorem okL_steps : sOkH yL_steps cL_steps 6 (some .int) [(0, 12, 15, 13), (0, 12, 19, 29)] 5 := ⟨⟨inR15 _ (List.mem_of_getElem? (i := 23) rfl), inR5 _ (List.mem_of_getElem? (i := 16) rfl), by decide +kernel⟩, inR15 _ (List.mem_of_getElem? (i := 22) rfl)⟩
theorem okL_setPatience : sOkH yL_setPatience cL_setPatience 4 (some .int) [(0, 9, 12, 15)] 3 := ⟨⟨inR16 _ (List.mem_of_getElem? (i := 15) rfl), inR5 _ (List.mem_of_getElem? (i := 16) rfl), by decide +kernel⟩, inR16 _ (List.mem_of_getElem? (i := 14) rfl)⟩
theorem okL_add : sOkH yL_add cL_add 7 (some .int) [(0, 14, 17, 13), (0, 14, 21, 15), (0, 14, 25, 17)] 6 := ⟨⟨inR17 _ (List.mem_of_getElem? (i := 3) rfl), inR5 _ (List.mem_of_getElem? (i := 16) rfl), by decide +kernel⟩, inR17 _ (List.mem_of_getElem? (i := 2) rfl)⟩
theorem okL_remove : sOkH yL_remove cL_remove 4 (some .int) [(0, 9, 12, 13)] 3 := ⟨⟨inR18 _ (List.mem_of_getElem? (i := 22) rfl), inR5 _ (List.mem_of_getElem? (i := 16) rfl), by decide +kernel⟩, inR18 _ (List.mem_of_getElem? (i := 21) rfl)⟩
theorem okL_change : sOkH yL_change cL_change 6 (some .int) [(0, 12, 15, 13), (0, 12, 19, 15)] 5 := ⟨⟨inR20 _ (List.mem_of_getElem? (i := 4) rfl), inR5 _ (List.mem_of_getElem? (i := 16) rfl), by decide +kernel⟩, inR20 _ (List.mem_of_getElem? (i := 3) rfl)⟩
theorem okL_agent : sOkH yL_agent cL_agent 5 (some .int) [(0, 10, 13, 13), (0, 10, 17, 15)] 4 := ⟨⟨inR20 _ (List.mem_of_getElem? (i := 16) rfl), inR5 _ (List.mem_of_getElem? (i := 16) rfl), by decide +kernel⟩, inR20 _ (List.mem_of_getElem? (i := 15) rfl)⟩
theorem okL_agents : sOkH yL_agents cL_agents 4 (some .int) [(0, 9, 12, 15)] 3 := ⟨⟨inR23 _ (List.mem_of_getElem? (i := 1) rfl), inR5 _ (List.mem_of_getElem? (i := 16) rfl), by decide +kernel⟩, inR23 _ (List.mem_of_getElem? (i := 0) rfl)⟩
theorem okL_join : sOkH yL_join cL_join 7 (some .int) [(0, 14, 17, 13), (0, 14, 21, 15), (0, 14, 25, 17)] 6 := ⟨⟨inR24 _ (List.mem_of_getElem? (i := 18) rfl), inR5 _ (List.mem_of_getElem? (i := 16) rfl), by decide +kernel⟩, inR24 _ (List.mem_of_getElem? (i := 17) rfl)⟩
theorem okL_leave : sOkH yL_leave cL_leave 4 (some .int) [(0, 9, 12, 13), (0, 9, 15, 17)] 3 := ⟨⟨inR25 _ (List.mem_of_getElem? (i := 20) rfl), inR5 _ (List.mem_of_getElem? (i := 16) rfl), by decide +kernel⟩, inR25 _ (List.mem_of_getElem? (i := 19) rfl)⟩
theorem okL_disorder : sOkH yL_disorder cL_disorder 4 (some .int) [(0, 9, 12, 13), (0, 9, 15, 17)] 3 := ⟨⟨inR26 _ (List.mem_of_getElem? (i := 7) rfl), inR5 _ (List.mem_of_getElem? (i := 16) rfl), by decide +kernel⟩, inR26 _ (List.mem_of_getElem? (i := 6) rfl)⟩
theorem okL_tick : sOkH yL_tick cL_tick 4 (some .int) [(0, 9, 12, 15)] 3 := ⟨⟨inR27 _ (List.mem_of_getElem? (i := 4) rfl), inR5 _ (List.mem_of_getElem? (i := 16) rfl), by decide +kernel⟩, inR27 _ (List.mem_of_getElem? (i := 3) rfl)⟩
theorem okL_statistic : sOkH yL_statistic cL_statistic 4 (some .int) [(0, 9, 12, 15)] 3 := ⟨⟨inR30 _ (List.mem_of_getElem? (i := 19) rfl), inR5 _ (List.mem_of_getElem? (i := 16) rfl), by decide +kernel⟩, inR30 _ (List.mem_of_getElem? (i := 18) rfl)⟩
theorem okL_forecast : sOkH yL_forecast cL_forecast 4 (some .int) [(0, 9, 12, 13), (0, 9, 15, 29)] 3 := ⟨⟨inR31 _ (List.mem_of_getElem? (i := 6) rfl), inR5 _ (List.mem_of_getElem? (i := 16) rfl), by decide +kernel⟩, inR31 _ (List.mem_of_getElem? (i := 5) rfl)⟩
theorem okL_bottleneck : sOkH yL_bottleneck cL_bottleneck 3 (some .int) [(0, 8, 11, 29)] 2 := ⟨⟨inR31 _ (List.mem_of_getElem? (i := 19) rfl), inR5 _ (List.mem_of_getElem? (i := 16) rfl), by decide +kernel⟩, inR31 _ (List.mem_of_getElem? (i := 18) rfl)⟩
theorem okL_jam : sOkH yL_jam cL_jam 5 (some .int) [(0, 10, 13, 13), (0, 10, 17, 15)] 4 := ⟨⟨inR33 _ (List.mem_of_getElem? (i := 14) rfl), inR5 _ (List.mem_of_getElem? (i := 16) rfl), by decide +kernel⟩, inR33 _ (List.mem_of_getElem? (i := 13) rfl)⟩
theorem okL_feed : sOkH yL_feed cL_feed 4 (some .int) [(0, 9, 12, 17)] 3 := ⟨⟨inR36 _ (List.mem_of_getElem? (i := 3) rfl), inR5 _ (List.mem_of_getElem? (i := 16) rfl), by decide +kernel⟩, inR36 _ (List.mem_of_getElem? (i := 2) rfl)⟩
theorem okL_readMap : sOkH yL_readMap cL_readMap 3 (some .int) [(0, 8, 11, 17)] 2 := ⟨⟨inR37 _ (List.mem_of_getElem? (i := 1) rfl), inR5 _ (List.mem_of_getElem? (i := 16) rfl), by decide +kernel⟩, inR37 _ (List.mem_of_getElem? (i := 0) rfl)⟩
theorem okL_map : sOkH yL_map cL_map 4 (some .int) [(0, 9, 12, 13)] 3 := ⟨⟨inR38 _ (List.mem_of_getElem? (i := 5) rfl), inR5 _ (List.mem_of_getElem? (i := 16) rfl), by decide +kernel⟩, inR38 _ (List.mem_of_getElem? (i := 4) rfl)⟩
theorem okL_undo : sOkH yL_undo cL_undo 3 (some .int) [(0, 8, 11, 17)] 2 := ⟨⟨inR38 _ (List.mem_of_getElem? (i := 16) rfl), inR5 _ (List.mem_of_getElem? (i := 16) rfl), by decide +kernel⟩, inR38 _ (List.mem_of_getElem? (i := 15) rfl)⟩
theorem okL_restore : sOkH yL_restore cL_restore 3 (some .int) [(0, 8, 11, 17)] 2 := ⟨⟨inR39 _ (List.mem_of_getElem? (i := 17) rfl), inR5 _ (List.mem_of_getElem? (i := 16) rfl), by decide +kernel⟩, inR39 _ (List.mem_of_getElem? (i := 16) rfl)⟩
theorem okL_meanDistance : sOkH yL_meanDistance cL_meanDistance 3 (some .int) [(0, 7, 10, 90)] 2 := ⟨⟨inR34 _ (List.mem_of_getElem? (i := 23) rfl), inR5 _ (List.mem_of_getElem? (i := 16) rfl), by decide +kernel⟩, inR34 _ (List.mem_of_getElem? (i := 22) rfl)⟩
theorem okL_density : sOkH yL_density cL_density 3 (some .int) [(0, 8, 11, 90)] 2 := ⟨⟨inR35 _ (List.mem_of_getElem? (i := 16) rfl), inR5 _ (List.mem_of_getElem? (i := 16) rfl), by decide +kernel⟩, inR35 _ (List.mem_of_getElem? (i := 15) rfl)⟩
def sLl (b : Nat) (ad : Nat → Nat) (i : Nat) : List (Nat × Value) := [(5, .int (Int32.ofNat i)), (4, .ref (ad 171)), (3, .ref (ad 170)), (2, .ref (ad 157)), (1, .ref (ad 0)), (0, .ref b)]
/-- what stands through the law's loop -/
def sLC (p : Program) (R : Room) (l : Launch) (s : State) (m : MethodId) (c : Code) (cells slots : Nat) (args : Array Value) (A : Nat → Prop) (D : va_G) (G : Nat → ClassId) (b L : Nat) (xs : Nat → Int32) (i : Nat) : Prop :=
  CallFix p m c cL_law 9 s args wsL_law RL ∧ sU D G s ∧ sNc s ∧ sZ A s ∧ (∀ q, s.heap.size ≤ q → A q) ∧ l.stackTraces = false ∧ va_X b L xs s s.heap ∧ b < s.heap.size ∧ ¬ A b ∧ L ≤ 2560 ∧ i + 5 ≤ L ∧ (13 ≤ R.frames ∧ 400 ≤ R.locals)
theorem sl_room {n cells slots : Nat} {R : Room} {q0 : (Int32 × (Int64 × UInt64)) × sR × sV × Nat} (h : cells + (q0.2.2.2 + 1) ≤ R.cells ∧ slots + (sz (n + q0.2.2.2) - sz n + 6) ≤ R.slots) : cells + mcL n (fz n q0) ≤ R.cells ∧ slots + msL n (fz n q0) ≤ R.slots := by
  refine ⟨?_, h.2⟩
  show cells + (n + q0.2.2.2 - n + 1) ≤ R.cells
  omega
theorem sl_fr {R : Room} {a b : Nat} {maxL : Nat} (hR : 13 ≤ R.frames ∧ 400 ≤ R.locals) (h : maxL ≤ 20 := by decide) : (rmL a b).frames + 1 ≤ R.frames ∧ 8 + (maxL + 11) + (rmL a b).locals ≤ R.locals := by
  show 11 + 1 ≤ R.frames ∧ 8 + (maxL + 11) + 280 ≤ R.locals
  omega
theorem sl_fx {R rm : Room} {maxL : Nat} (hR : 13 ≤ R.frames ∧ 400 ≤ R.locals) (h : rm.frames + 1 ≤ 13 ∧ 8 + (maxL + 11) + rm.locals ≤ 400) : rm.frames + 1 ≤ R.frames ∧ 8 + (maxL + 11) + rm.locals ≤ R.locals := by omega
