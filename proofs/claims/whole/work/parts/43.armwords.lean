theorem wmL_123 : Cond.methodLink RL 123 yX7_thrown ∈ wsL_law := inR9 _ (List.mem_of_getElem? (i := 23) rfl)
theorem wmL_155 : Cond.methodLink RL 155 yL_change ∈ wsL_law := inR20 _ (List.mem_of_getElem? (i := 3) rfl)
theorem wmL_158 : Cond.methodLink RL 158 yX7_change ∈ wsL_law := inR20 _ (List.mem_of_getElem? (i := 11) rfl)
theorem wmL_202 : Cond.methodLink RL 202 yL_feed ∈ wsL_law := inR36 _ (List.mem_of_getElem? (i := 2) rfl)
theorem wmL_205 : Cond.methodLink RL 205 yX7_feed ∈ wsL_law := inR36 _ (List.mem_of_getElem? (i := 19) rfl)
theorem okL_change : sOkH yL_change cL_change 6 (some .int) [(0, 12, 15, 13), (0, 12, 19, 15)] 5 := ⟨⟨inR20 _ (List.mem_of_getElem? (i := 5) rfl), inR5 _ (List.mem_of_getElem? (i := 18) rfl), by decide +kernel⟩, inR20 _ (List.mem_of_getElem? (i := 4) rfl)⟩
theorem okL_feed : sOkH yL_feed cL_feed 4 (some .int) [(0, 9, 12, 17)] 3 := ⟨⟨inR36 _ (List.mem_of_getElem? (i := 4) rfl), inR5 _ (List.mem_of_getElem? (i := 18) rfl), by decide +kernel⟩, inR36 _ (List.mem_of_getElem? (i := 3) rfl)⟩
def sLl (b : Nat) (ad : Nat → Nat) (i : Nat) : List (Nat × Value) := [(5, .int (Int32.ofNat i)), (4, .ref (ad 171)), (3, .ref (ad 170)), (2, .ref (ad 157)), (1, .ref (ad 0)), (0, .ref b)]
/-- what stands through the law's loop -/
def sLC (p : Program) (R : Room) (l : Launch) (s : State) (m : MethodId) (c : Code) (cells slots : Nat) (args : Array Value) (A : Nat → Prop) (D : va_G) (G : Nat → ClassId) (b L : Nat) (xs : Nat → Int32) (i : Nat) : Prop :=
  CallFix p m c cL_law 9 s args wsL_law RL ∧ sU D G s ∧ sNc s ∧ sZ A s ∧ (∀ q, s.heap.size ≤ q → A q) ∧ l.stackTraces = false ∧ va_X b L xs s s.heap ∧ b < s.heap.size ∧ ¬ A b ∧ L ≤ 2560 ∧ i + 5 ≤ L ∧ (13 ≤ R.frames ∧ 400 ≤ R.locals)
theorem sl_room {n cells slots : Nat} {R : Room} {q0 : (Int32 × (Int64 × UInt64)) × sR × sV × Nat} (h : cells + (q0.2.2.2 + 1) ≤ R.cells ∧ slots + (sz (n + q0.2.2.2) - sz n + 6) ≤ R.slots) : cells + mcL n (fz n q0) ≤ R.cells ∧ slots + msL n (fz n q0) ≤ R.slots := by
  refine ⟨?_, h.2⟩
  show cells + (n + q0.2.2.2 - n + 1) ≤ R.cells
  omega
theorem sl_fr {R : Room} {a b : Nat} {maxL : Nat} (hR : 13 ≤ R.frames ∧ 400 ≤ R.locals) (h : maxL ≤ 20 := by decide) : (rmL a b).frames + 1 ≤ R.frames ∧ 8 + (maxL + 11) + (rmL a b).locals ≤ R.locals := by
  show 11 + 1 ≤ R.frames ∧ 8 + (maxL + 11) + 280 ≤ R.locals
  omega
theorem sl_fx {R rm : Room} {maxL : Nat} (hR : 13 ≤ R.frames ∧ 400 ≤ R.locals) (h : rm.frames + 1 ≤ 13 ∧ 8 + (maxL + 11) + rm.locals ≤ 400) : rm.frames + 1 ≤ R.frames ∧ 8 + (maxL + 11) + rm.locals ≤ R.locals := by omega
