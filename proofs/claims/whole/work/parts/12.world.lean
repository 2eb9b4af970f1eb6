/-! THE WORLD: all cells of the class, of the reference and of the law, by their places. v: numbers, r: references (0: null, q + 1: the cell at place q), ad: the address of a place, n: how many places there are, x: the law's long and double cell -/
/-- places 0 to 171: (kind, length); kinds 2 to 9: objects by vwCl, 10 int[], 11 boolean[], 12 char[], 13 long[], 14 double[], 15 Field[], 16 State[] -/
def sSt : List (Nat × Nat) := [(7, 13), (10, 140), (10, 140), (10, 4), (10, 16), (10, 16), (10, 16), (10, 16), (10, 16), (10, 16), (10, 16), (10, 16), (10, 5)]
def sTab : List (Nat × Nat) :=
  [(8, 8)] ++ sSt ++ [(4, 4), (15, 140), (3, 2), (10, 140), (10, 10), (10, 140), (2, 3), (2, 3)] ++ sSt ++ [(5, 3), (16, 8)] ++ sSt ++ sSt ++ sSt ++ sSt ++ sSt ++ sSt ++ sSt ++ sSt ++ sSt ++ [(6, 3), (12, 150), (10, 140)] ++
  [(9, 16), (10, 434), (10, 434), (10, 434), (10, 3472), (10, 19600), (10, 140), (11, 140), (11, 140), (11, 16), (11, 16), (10, 150), (10, 140), (13, 1), (14, 1)]
def sks (p : Nat) : Nat × Nat := if p < 172 then sTab.getD p (0, 0) else if p % 2 = 0 then (3, 2) else (10, 140)
/-- which slots of a kind of objects are references -/
def sFl (ci : Nat) : List Bool := match ci with
  | 2 => [true, true, false]
  | 3 => [true, false]
  | 4 => [true, true, true, true]
  | 5 => [true, false, false]
  | 6 => [true, false, true]
  | 7 => [true, true, true, true, true, true, true, true, true, true, true, true, false]
  | 8 => [true, true, true, true, true, true, false, true]
  | 9 => [true, true, true, true, false, false, false, true, true, true, true, true, true, true, true, false]
  | _ => []
def rv (ad : Nat → Nat) (k : Nat) : Value := match k with
  | 0 => .null
  | q + 1 => .ref (ad q)
def ro (ad : Nat → Nat) (k : Nat) : Option Nat := match k with
  | 0 => none
  | q + 1 => some (ad q)
theorem rv_ro (ad : Nat → Nat) (k : Nat) : va_rf (ro ad k) = rv ad k := by cases k <;> rfl
def sF1 (ad : Nat → Nat) (r : Nat → Nat) (v : Nat → Int32) (fl : List Bool) (k : Nat) : Value := if fl.getD k false = true then rv ad (r k) else .int (v k)
def sFs (ad : Nat → Nat) (r : Nat → Nat) (v : Nat → Int32) (fl : List Bool) : List Value := (List.range fl.length).map (sF1 ad r v fl)
def sC (G : Nat → ClassId) (ad : Nat → Nat) (r : sR) (v : sV) (x : Int64 × UInt64) (p : Nat) : va_E :=
  if (sks p).1 < 10 then .inr ((sks p).1, sFs ad (r p) (v p) (sFl (sks p).1))
  else if (sks p).1 = 13 then .inl (G 3, (sks p).2, .inr (.inl (fun _ => x.1)))
  else if (sks p).1 = 14 then .inl (G 4, (sks p).2, .inr (.inr (.inr (.inl (fun _ => x.2)))))
  else if 15 ≤ (sks p).1 then .inl (G ((sks p).1 - 10), (sks p).2, .inr (.inr (.inr (.inr (fun i => ro ad (r p i))))))
  else .inl (G ((sks p).1 - 10), (sks p).2, .inl (v p))
/-! which places are alive: a mark in r at a place's index gI (0: alive); the others are not in the picture -/
def gI : Nat := 99999
def al (r : sR) (q : Nat) : Bool := decide (r q gI = 0)
def lv (r : sR) (n q : Nat) : Prop := q < n ∧ r q gI = 0
def sLs (r : sR) (n : Nat) : List Nat := (List.range n).filter (al r)
def sIx (r : sR) (q : Nat) : Nat := (sLs r q).length
theorem sLs_succ {r : sR} {n : Nat} : sLs r (n + 1) = sLs r n ++ (if r n gI = 0 then [n] else []) := by
  unfold sLs
  rw [List.range_succ, List.filter_append]
  congr 1
  by_cases h : r n gI = 0
  · rw [if_pos h]
    simp [al, h]
  · rw [if_neg h]
    simp [al, h]
theorem sLs_get {r : sR} {n q : Nat} (h : lv r n q) : (sLs r n)[sIx r q]? = some q := by
  obtain ⟨h1, h2⟩ := h
  induction n with
  | zero => exact absurd h1 (Nat.not_lt_zero q)
  | succ n ih =>
    rw [sLs_succ]
    by_cases hq : q = n
    · subst hq
      rw [if_pos h2]
      unfold sIx
      rw [List.getElem?_append_right (Nat.le_refl _), Nat.sub_self]
      rfl
    · have h3 := ih (by omega)
      rw [List.getElem?_append_left (List.getElem?_eq_some_iff.mp h3).1]
      exact h3
theorem sLs_out {r : sR} {n k q : Nat} (h : (sLs r n)[k]? = some q) : lv r n q ∧ k = sIx r q := by
  induction n with
  | zero => exact absurd h (by simp [sLs])
  | succ n ih =>
    rw [sLs_succ] at h
    by_cases hk : k < (sLs r n).length
    · rw [List.getElem?_append_left hk] at h
      obtain ⟨h1, h2⟩ := ih h
      exact ⟨⟨Nat.lt_succ_of_lt h1.1, h1.2⟩, h2⟩
    · rw [List.getElem?_append_right (by omega)] at h
      by_cases hn : r n gI = 0
      · rw [if_pos hn] at h
        obtain ⟨h1, h2⟩ := List.getElem?_eq_some_iff.mp h
        have h1 : k - (sLs r n).length < 1 := h1
        have h3 : k - (sLs r n).length = 0 := by omega
        simp only [h3] at h2
        have h2 : n = q := h2
        subst h2
        exact ⟨⟨Nat.lt_succ_self n, hn⟩, show k = (sLs r n).length by omega⟩
      · rw [if_neg hn] at h
        exact absurd h (by simp)
theorem sLs_c {r r' : sR} {n : Nat} (h : ∀ q, q < n → (r' q gI = 0 ↔ r q gI = 0)) : sLs r' n = sLs r n := by
  unfold sLs
  apply List.filter_congr
  intro q hq
  have h1 := h q (List.mem_range.mp hq)
  by_cases h2 : r q gI = 0
  · simp [al, h2, h1.mpr h2]
  · have h3 : ¬ r' q gI = 0 := fun e => h2 (h1.mp e)
    simp [al, h2, h3]
def sWl (G : Nat → ClassId) (ad : Nat → Nat) (r : sR) (v : sV) (n : Nat) (x : Int64 × UInt64) : va_W := (sLs r n).map (fun p => (ad p, sC G ad r v x p))
theorem sWl_get {G : Nat → ClassId} {ad : Nat → Nat} {r : sR} {v : sV} {n : Nat} {x : Int64 × UInt64} {p : Nat} (h : lv r n p) : (sWl G ad r v n x)[sIx r p]? = some (ad p, sC G ad r v x p) := by
  unfold sWl
  rw [List.getElem?_map, sLs_get h]
  rfl
theorem sWl_out {G : Nat → ClassId} {ad : Nat → Nat} {r : sR} {v : sV} {n : Nat} {x : Int64 × UInt64} {k : Nat} {e : Nat × va_E} (h : (sWl G ad r v n x)[k]? = some e) : ∃ p, lv r n p ∧ k = sIx r p ∧ e = (ad p, sC G ad r v x p) := by
  unfold sWl at h
  rw [List.getElem?_map] at h
  obtain ⟨p, h1, h2⟩ := Option.map_eq_some_iff.mp h
  obtain ⟨h3, h4⟩ := sLs_out h1
  exact ⟨p, h3, h4, h2.symm⟩
theorem sIx_inj {r : sR} {n p q : Nat} (hp : lv r n p) (hq : lv r n q) (h : sIx r p = sIx r q) : p = q := by
  have h1 := sLs_get hp
  have h2 := sLs_get hq
  rw [h] at h1
  exact Option.some.inj (h1.symm.trans h2)
theorem sWl_set {G : Nat → ClassId} {ad : Nat → Nat} {r r' : sR} {v v' : sV} {n : Nat} {x x' : Int64 × UInt64} {p : Nat} (h : lv r n p) (hal : ∀ q, q < n → (r' q gI = 0 ↔ r q gI = 0)) {e : va_E} (he : e = sC G ad r' v' x' p) (ho : ∀ q, q < n → q ≠ p → sC G ad r' v' x' q = sC G ad r v x q) : (sWl G ad r v n x).set (sIx r p) (ad p, e) = sWl G ad r' v' n x' := by
  apply List.ext_getElem?
  intro k
  rw [List.getElem?_set]
  have hlen : (sWl G ad r v n x).length = (sLs r n).length := by simp [sWl]
  have hget : (sWl G ad r' v' n x')[k]? = ((sLs r n)[k]?).map (fun p => (ad p, sC G ad r' v' x' p)) := by
    unfold sWl
    rw [List.getElem?_map, sLs_c hal]
  rw [hget]
  by_cases hk : sIx r p = k
  · subst hk
    have h1 := sLs_get h
    have h2 := (List.getElem?_eq_some_iff.mp h1).1
    rw [if_pos rfl, if_pos (by rw [hlen]; exact h2), he, h1]
    rfl
  · rw [if_neg hk]
    unfold sWl
    rw [List.getElem?_map]
    cases h1 : (sLs r n)[k]? with
    | none => rfl
    | some q =>
      obtain ⟨h2, h3⟩ := sLs_out h1
      have h4 : q ≠ p := fun e => hk (by rw [← e]; exact h3.symm)
      simp only [Option.map_some]
      rw [ho q h2.1 h4]
theorem sFs_get {ad : Nat → Nat} {r : Nat → Nat} {v : Nat → Int32} {fl : List Bool} {k : Nat} (h : k < fl.length) : (sFs ad r v fl)[k]? = some (sF1 ad r v fl k) := by
  simp [sFs, h]
theorem sFs_len {ad : Nat → Nat} {r : Nat → Nat} {v : Nat → Int32} {fl : List Bool} : (sFs ad r v fl).length = fl.length := by simp [sFs]
theorem sFs_set {ad : Nat → Nat} {r r' : Nat → Nat} {v v' : Nat → Int32} {fl : List Bool} {k : Nat} {w : Value} (h : k < fl.length) (hw : w = sF1 ad r' v' fl k) (ho : ∀ j, j < fl.length → j ≠ k → sF1 ad r' v' fl j = sF1 ad r v fl j) : (sFs ad r v fl).set k w = sFs ad r' v' fl := by
  apply List.ext_getElem?
  intro j
  rw [List.getElem?_set]
  by_cases hj : k = j
  · subst hj
    rw [if_pos rfl, if_pos (by rw [sFs_len]; exact h), hw]
    exact (sFs_get h).symm
  · rw [if_neg hj]
    by_cases hn : j < fl.length
    · rw [sFs_get hn, sFs_get hn, ho j hn (fun e => hj e.symm)]
    · have h1 : ∀ (r : Nat → Nat) (v : Nat → Int32), (sFs ad r v fl)[j]? = none := fun r v => List.getElem?_eq_none (by rw [sFs_len]; omega)
      rw [h1, h1]
theorem s2_ne {v : sV} {p i : Nat} {y : Int32} {q : Nat} (h : q ≠ p) : s2 v p i y q = v q := by
  funext j
  simp [s2, h]
theorem s2_upd {v : sV} {p i : Nat} {y : Int32} : s2 v p i y p = upd (v p) i y := by
  funext j
  simp [s2, upd]
theorem r2_ne {r : sR} {p i : Nat} {y : Nat} {q : Nat} (h : q ≠ p) : r2 r p i y q = r q := by
  funext j
  simp [r2, h]
theorem r2_gI {r : sR} {p i y : Nat} (hi : i ≠ gI) (q : Nat) : r2 r p i y q gI = r q gI := by
  unfold r2
  rw [if_neg (fun e => hi e.2.symm)]
theorem sC_ne {G : Nat → ClassId} {ad : Nat → Nat} {r r' : sR} {v v' : sV} {x : Int64 × UInt64} {q : Nat} (hr : r' q = r q) (hv : v' q = v q) : sC G ad r' v' x q = sC G ad r v x q := by
  simp only [sC, hr, hv]
/-- the addresses a method over this world may write: the world's, and what it makes -/
def sA (ad : Nat → Nat) (r : sR) (n sz : Nat) : Nat → Prop := fun q => (∃ p, lv r n p ∧ ad p = q) ∨ sz ≤ q
def sT (G : Nat → ClassId) : List (ClassId × FieldType) := [(G 0, .int), (G 1, .boolean), (G 2, .char), (G 3, .long), (G 4, .double), (G 5, .object "CrowdSimulator$Field"), (G 6, .object "CrowdSimulator$State")]
def sNs : List (String × Nat × MethodName) := [(RX6, 18, yX2_init), (RX6, 51, yX4_init), (RX0, 113, yX6_isIn), (RX0, 124, yX6_neighborOf), (RX2, 50, yX6_neighborOf), (RX1, 29, yX6_neighborOf), (RX0, 64, yX6_columnOf), (RX0, 67, yX6_rowOf), (RX0, 73, yX6_cellAt), (RX4, 33, yX6_cellAt), (RX6, 37, yX3_init)]
def sStrs : List (Nat × String) := [(74, "an agent or a goal is on the cell"), (102, "no such number about a cell"), (109, "the cell is a wall"), (160, "the cell is not free"), (165, "there are 16 agents"), (215, "no such number about an agent"), (229, "no such set of agents"), (240, "a leader can not be a member"), (251, "the agent is no member"), (253, "the agent is no leader"), (276, "not settled after 100 ticks or fewer"), (279, "no cell has passes"), (289, "no such jam"), (298, "no such number about a jam"), (302, "no agent has a distance from its target"), (305, "all cells are walls"), (311, "the buffer holds 150 characters"), (324, "an agent or a goal is on a new wall"), (326, "no such index"), (331, "no change can be taken back"), (336, "nothing was saved"), (341, "no such cell"), (343, "no such goal"), (345, "the goal is not set"), (347, "no such agent"), (349, "an argument is out of range")]
def sXs : List String := ["java/lang/IndexOutOfBoundsException", "java/lang/IllegalArgumentException", "java/lang/IllegalStateException", "java/util/NoSuchElementException", "java/lang/ArithmeticException"]
def sDecl : List MethodName := [Bundle.initS "java/lang/RuntimeException", Bundle.initS "java/lang/Exception", Bundle.initS Bundle.tN]
/-- what the tables say, for every method: the classes and rows; the links of nest mates; the rows of references; what a throw wants; the texts -/
def sU (D : va_G) (G : Nat → ClassId) (U : State) : Prop := va_K D vwCl (sT G) U ∧ (∀ w ∈ sNs, va_Nw (.methodLinkNest w.1 w.2.1 w.2.2 "CrowdSimulator") U) ∧ (va_AO "CrowdSimulator$Field" U ∧ va_AO "CrowdSimulator$State" U) ∧ (∀ w ∈ sDecl, va_Nw (.declares w) U) ∧ (∀ w ∈ sXs, va_Nw (.castable w w) U) ∧ ∀ q ∈ sStrs, ∃ a, vk_R RX6 q.1 q.2 a U
theorem sU.warm {D : va_G} {G : Nat → ClassId} {s U : State} (hW : s.WarmedH U.vm) (h : sU D G s) : sU D G U := ⟨va_K.moved hW.alike h.1, fun w hw => va_Nw.warmM hW (h.2.1 w hw), ⟨va_AO.moved hW.alike h.2.2.1.1, va_AO.moved hW.alike h.2.2.1.2⟩, fun w hw => va_Nw.warmD hW (h.2.2.2.1 w hw), fun w hw => va_Nw.warmC hW (h.2.2.2.2.1 w hw), fun q hq => (h.2.2.2.2.2 q hq).imp fun _ h9 => vk_R.warm hW h9⟩
theorem sU.calling {D : va_G} {G : Nat → ClassId} {U : State} {g : JFrame} {mk : MethodId} {a : Array Value} (h : sU D G U) : sU D G (U.calling g mk a) := h.warm (s := U) (U := U.calling g mk a) (State.WarmedH.refl U)
/-- the heap as it stands -/
def sB (D : va_G) (G : Nat → ClassId) (A : Nat → Prop) (H0 : Heap) (ad : Nat → Nat) (r : sR) (v : sV) (n : Nat) (x : Int64 × UInt64) (H : Heap) (locs : List Loc) : Prop :=
  va_P D vwCl (sWl G ad r v n x) H ∧ va_D A (sWl G ad r v n x) ∧ va_S A H0 H locs
theorem sD_any {A : Nat → Prop} {G G' : Nat → ClassId} {ad : Nat → Nat} {r : sR} {v v' : sV} {n : Nat} {x x' : Int64 × UInt64} (h : va_D A (sWl G ad r v n x)) : va_D A (sWl G' ad r v' n x') := by
  refine ⟨fun i j p q hp hq he => ?_, fun k q hk => ?_⟩
  · obtain ⟨p1, h1, rfl, rfl⟩ := sWl_out hp
    obtain ⟨p2, h2, rfl, rfl⟩ := sWl_out hq
    exact h.1 _ _ _ _ (sWl_get h1) (sWl_get h2) he
  · obtain ⟨p1, h1, rfl, rfl⟩ := sWl_out hk
    exact h.2 _ (ad p1, sC G ad r v x p1) (sWl_get h1)
/-- the classes: number, name, fields, how many -/
def sCls (ci : Nat) (C : String) (T : u_T) (N : Nat) (ty : Nat → FieldType) : Prop :=
  ci < 10 ∧ vwCl[ci]? = some (C, T, N) ∧ (sFl ci).length = N ∧ (∀ k, k < N → parseFieldDescriptor (T k).2.2.1 = some (ty k)) ∧ ∀ a, a < N → ∀ b, b < N → a ≠ b → (T a).2.1 ≠ (T b).2.1
theorem sc2 : sCls 2 RX0 TX0 3 tyX0 := ⟨by decide, rfl, rfl, tyX0_ok, nmX0⟩
theorem sc3 : sCls 3 RX1 TX1 2 tyX1 := ⟨by decide, rfl, rfl, tyX1_ok, nmX1⟩
theorem sc4 : sCls 4 RX2 TX2 4 tyX2 := ⟨by decide, rfl, rfl, tyX2_ok, nmX2⟩
theorem sc5 : sCls 5 RX3 TX3 3 tyX3 := ⟨by decide, rfl, rfl, tyX3_ok, nmX3⟩
theorem sc6 : sCls 6 RX4 TX4 3 tyX4 := ⟨by decide, rfl, rfl, tyX4_ok, nmX4⟩
theorem sc7 : sCls 7 RX5 TX5 13 tyX5 := ⟨by decide, rfl, rfl, tyX5_ok, nmX5⟩
theorem sc8 : sCls 8 RX6 TX6 8 tyX6 := ⟨by decide, rfl, rfl, tyX6_ok, nmX6⟩
theorem sc9 : sCls 9 RX7 TX7 16 tyX7 := ⟨by decide, rfl, rfl, tyX7_ok, nmX7⟩
