/-! METHODS THAT THROW: the answer is a number, or which exception -/
def sZ (A : Nat → Prop) (U : State) : Prop := vx_Zq Bundle.tN "UNASSIGNED_STACK" Bundle.steD A U U.heap ∧ vx_Zq Bundle.tN "SUPPRESSED_SENTINEL" Bundle.listD A U U.heap
def exn (k : Nat) : String := match k with
  | 1 => "java/lang/IndexOutOfBoundsException"
  | 2 => "java/lang/IllegalArgumentException"
  | 3 => "java/lang/IllegalStateException"
  | 4 => "java/util/NoSuchElementException"
  | _ => "java/lang/ArithmeticException"
def exc {α : Type} (o : Sum α Nat) : Nat := match o with
  | .inl _ => 0
  | .inr _ => 1
def sPT (D : va_G) (G : Nat → ClassId) (ad : Nat → Nat) (r : sR) (v : sV) (n : Nat) (x : Int64 × UInt64) (sz0 : Nat) (av : List Value) : Array Value → State → Prop := va_Pc av (fun U => U.heap.size = sz0 ∧ sU D G U ∧ va_P D vwCl (sWl G ad r v n x) U.heap ∧ va_D (fun _ => True) (sWl G ad r v n x) ∧ sZ (sA ad n sz0) U)
def sXC {α : Type} (D : va_G) (G : Nat → ClassId) (ad : Nat → Nat) (n : Nat) (x : Int64 × UInt64) (sz0 : Nat) (fin : Sum α Nat × sR × sV × Nat) : String → State → State → Prop := vx_X (fun ad' : Nat → Nat => sGo n ad fin.2.2.2 ad') (fun E ad' t => (∃ k, fin.1 = .inr k ∧ E = exn k) ∧ sE D G ad n x sz0 fin.2.1 fin.2.2.1 fin.2.2.2 ad' t) (sA ad n sz0)
def sQTi (D : va_G) (G : Nat → ClassId) (ad : Nat → Nat) (n : Nat) (x : Int64 × UInt64) (sz0 : Nat) (fin : Sum Int32 Nat × sR × sV × Nat) : Array Value → State → Outcome → State → Prop := va_Qi (fun (q : Int32) (ad' : Nat → Nat) => fin.1 = .inl q ∧ sGo n ad fin.2.2.2 ad') (fun ad' t => sE D G ad n x sz0 fin.2.1 fin.2.2.1 fin.2.2.2 ad' t) (sA ad n sz0)
def sQTv (D : va_G) (G : Nat → ClassId) (ad : Nat → Nat) (n : Nat) (x : Int64 × UInt64) (sz0 : Nat) (fin : Sum Unit Nat × sR × sV × Nat) : Array Value → State → Outcome → State → Prop := va_Qv (fun (ad' : Nat → Nat) => fin.1 = .inl () ∧ sGo n ad fin.2.2.2 ad') (fun ad' t => sE D G ad n x sz0 fin.2.1 fin.2.2.1 fin.2.2.2 ad' t) (sA ad n sz0)
def sQTd (D : va_G) (G : Nat → ClassId) (ad : Nat → Nat) (n : Nat) (x : Int64 × UInt64) (sz0 : Nat) (fin : Sum UInt64 Nat × sR × sV × Nat) : Array Value → State → Outcome → State → Prop := va_Qd (fun (q : UInt64) (ad' : Nat → Nat) => fin.1 = .inl q ∧ sGo n ad fin.2.2.2 ad') (fun ad' t => sE D G ad n x sz0 fin.2.1 fin.2.2.1 fin.2.2.2 ad' t) (sA ad n sz0)
def sQTf (D : va_G) (G : Nat → ClassId) (ad : Nat → Nat) (n : Nat) (x : Int64 × UInt64) (sz0 : Nat) (fin : Sum UInt32 Nat × sR × sV × Nat) : Array Value → State → Outcome → State → Prop := va_Qf (fun (q : UInt32) (ad' : Nat → Nat) => fin.1 = .inl q ∧ sGo n ad fin.2.2.2 ad') (fun ad' t => sE D G ad n x sz0 fin.2.1 fin.2.2.1 fin.2.2.2 ad' t) (sA ad n sz0)
def sQTr (D : va_G) (G : Nat → ClassId) (ad : Nat → Nat) (n : Nat) (x : Int64 × UInt64) (sz0 : Nat) (fin : Sum Nat Nat × sR × sV × Nat) : Array Value → State → Outcome → State → Prop := va_Qr (fun (ad' : Nat → Nat) => sGo n ad fin.2.2.2 ad') (fun ad' a t => (∃ q, fin.1 = .inl q ∧ a = ad' q) ∧ sE D G ad n x sz0 fin.2.1 fin.2.2.1 fin.2.2.2 ad' t) (sA ad n sz0)
/-- how many cells and slots a throwing method may use -/
def mcT {α : Type} (n : Nat) (fin : Sum α Nat × sR × sV × Nat) : Nat := fin.2.2.2 - n + exc fin.1
def msT {α : Type} (n : Nat) (fin : Sum α Nat × sR × sV × Nat) : Nat := sz fin.2.2.2 - sz n + 6 * exc fin.1
def sMT {α : Type} (QT : va_G → (Nat → ClassId) → (Nat → Nat) → Nat → Int64 × UInt64 → Nat → Sum α Nat × sR × sV × Nat → Array Value → State → Outcome → State → Prop) (l : Launch) (y : MethodName) (ws : List Cond) (rm : Nat → Nat → Room) (D : va_G) (G : Nat → ClassId) (ad : Nat → Nat) (r : sR) (v : sV) (n : Nat) (x : Int64 × UInt64) (av : List Value) (o : Option (Sum α Nat × sR × sV × Nat)) : Prop :=
  ∀ (sz0 : Nat) (q0 : Sum α Nat × sR × sV × Nat), o = some q0 → vx_Met l y ws (rm (mcT n (fz n q0)) (msT n (fz n q0))) (sPT D G ad r v n x sz0 av) (QT D G ad n x sz0 (fz n q0)) (sXC D G ad n x sz0 (fz n q0)) (mcT n (fz n q0)) (msT n (fz n q0)) (sA ad n sz0)
theorem sZ.calling {A : Nat → Prop} {U : State} {g : JFrame} {mk : MethodId} {a : Array Value} (h : sZ A U) : sZ A (U.calling g mk a) := ⟨vx_Zq.moved (u := U) (U := U.calling g mk a) (Vm.Alike.refl U.vm) h.1, vx_Zq.moved (u := U) (U := U.calling g mk a) (Vm.Alike.refl U.vm) h.2⟩
theorem fb_T {D : va_G} {G : Nat → ClassId} {ad : Nat → Nat} {r : sR} {v : sV} {n : Nat} {x : Int64 × UInt64} {sz0 : Nat} {av : List Value} : FrameBlind (sPT D G ad r v n x sz0 av) := fun _ _ _ _ q => ⟨q.1, q.2.1, q.2.2.1.calling, q.2.2.2.1, q.2.2.2.2.1, q.2.2.2.2.2.calling⟩
theorem va_P_keep {D : va_G} {cl : List vw_C} {ws : va_W} {H H1 : Heap} (hP : va_P D cl ws H) (hk : ∀ q : Nat, q < H.size → H1[q]? = H[q]?) : va_P D cl ws H1 := by
  intro k q hq
  have h := hP k q hq
  refine h.kept (hk q.1 ?_)
  have hs : ∃ c : Cell, H[q.1]? = some c := by
    unfold va_at at h
    split at h
    · exact ⟨_, h⟩
    · obtain ⟨_, _, c, hc, _⟩ := h
      exact ⟨c, hc⟩
  obtain ⟨c, hc⟩ := hs
  exact (Array.getElem?_eq_some_iff.mp hc).1
/-- the words of a throw that the tables alone don't pass on -/
def sBadW : List Cond := sDecl.map Cond.declares ++ sXs.map (fun w => Cond.castable w w)
theorem sBad_ok {D : va_G} {G : Nat → ClassId} {s : State} {args : Array Value} (hU : sU D G s) : ∀ w ∈ sBadW, w.before args s = true := by
  intro w hw
  rcases List.mem_append.mp hw with h | h
  · obtain ⟨y, hy, rfl⟩ := List.mem_map.mp h
    exact va_Nw.use rfl (hU.2.2.2.1 y hy)
  · obtain ⟨y, hy, rfl⟩ := List.mem_map.mp h
    exact va_Nw.use rfl (hU.2.2.2.2.1 y hy)
def sNames : List String := ["java/lang/RuntimeException", "java/lang/Exception"]
set_option maxRecDepth 100000 in
theorem bw76 : ∀ w ∈ (vx_atS RX6 76 "java/lang/IllegalStateException" sNames).filter (fun w => !goodWord w), w ∈ sBadW := by decide +kernel
set_option maxRecDepth 100000 in
theorem bw291 : ∀ w ∈ (vx_atS RX6 291 "java/lang/IndexOutOfBoundsException" sNames).filter (fun w => !goodWord w), w ∈ sBadW := by decide +kernel
set_option maxRecDepth 100000 in
theorem bw104 : ∀ w ∈ (vx_atS RX6 104 "java/lang/IllegalArgumentException" sNames).filter (fun w => !goodWord w), w ∈ sBadW := by decide +kernel
set_option maxRecDepth 100000 in
theorem bw304 : ∀ w ∈ (vx_atS RX6 304 "java/lang/ArithmeticException" sNames).filter (fun w => !goodWord w), w ∈ sBadW := by decide +kernel
theorem gw76 : ∀ w ∈ (vx_atS RX6 76 "java/lang/IllegalStateException" sNames).filter goodWord, w ∈ wsL_law := fun w h => List.mem_append_left _ (List.mem_append_left _ (List.mem_append_left _ (List.mem_append_left _ (List.mem_append_right _ h))))
theorem gw291 : ∀ w ∈ (vx_atS RX6 291 "java/lang/IndexOutOfBoundsException" sNames).filter goodWord, w ∈ wsL_law := fun w h => List.mem_append_left _ (List.mem_append_left _ (List.mem_append_left _ (List.mem_append_right _ h)))
theorem gw104 : ∀ w ∈ (vx_atS RX6 104 "java/lang/IllegalArgumentException" sNames).filter goodWord, w ∈ wsL_law := fun w h => List.mem_append_left _ (List.mem_append_left _ (List.mem_append_right _ h))
theorem gw278 : ∀ w ∈ (sNX RX6 278).filter goodWord, w ∈ wsL_law := fun w h => List.mem_append_left _ (List.mem_append_right _ h)
theorem gw304 : ∀ w ∈ (vx_atS RX6 304 "java/lang/ArithmeticException" sNames).filter goodWord, w ∈ wsL_law := fun w h => List.mem_append_right _ h
/-- an exception's class: its number, name, the entries of its link and of its constructor -/
def sXk (k : Nat) (cls : String) (ik ic : Nat) : Prop := exn k = cls ∧ Cond.classLink RX6 ik cls ∈ wsL_law ∧ Cond.initialized cls ∈ wsL_law ∧ Bundle.fit cls = true ∧ (∀ w ∈ (vx_atS RX6 ic cls sNames).filter goodWord, w ∈ wsL_law) ∧ (∀ w ∈ (vx_atS RX6 ic cls sNames).filter (fun w => !goodWord w), w ∈ sBadW) ∧ ∀ w ∈ Cond.classLink RX6 ik cls :: Cond.initialized cls :: vx_atS RX6 ic cls sNames, vx_ot w = true
theorem sNames_fit : ∀ n ∈ sNames, Bundle.fit n = true := by decide +kernel
section STH
variable {p : Program} {l : Launch} {e : Env} {R : Room} {s : State} {m : MethodId} {args : Array Value} {below : List Frame} {meth : Method} {c : Code} {H : Heap} {locs : List Loc} {cells slots : Nat} {Q : State → Prop} {pc : Nat} {ls : Array Slot} {rest st0 As : List Value} {cc : ByteArray} {nL : Nat} {own : String}
variable {D : va_G} {G : Nat → ClassId} {A : Nat → Prop} {H0 : Heap} {ad ad0 : Nat → Nat} {r : sR} {v : sV} {n n0 : Nat} {x : Int64 × UInt64} {α ρ β : Type} {res : ρ} {rez fin : Sum α Nat × sR × sV × Nat}
variable {y : MethodName} {bytes : ByteArray} {maxL index k : Nat} {ret : Option FieldType} {ws : List Cond} {rm : Room}
theorem sXC_of (hB : sB D G (sA ad0 n0 s.heap.size) s.heap ad r v n x H locs) (hgo : sGo n0 ad0 n ad) {ke : Nat} (hf : some (Sum.inr ke, r, v, 0) = some rez) (he : fin = fz n rez) {t : State} (hz : H.size ≤ t.heap.size) (hk : ∀ q : Nat, q < H.size → t.heap[q]? = H[q]?) : sXC D G ad0 n0 x s.heap.size fin (exn ke) s t := by
  cases hf
  subst he
  refine ⟨ad, hgo, ⟨⟨ke, rfl, rfl⟩, va_P_keep hB.1 hk, hB.2.1⟩, Nat.le_trans hB.2.2.1 hz, fun q h1 h2 => ?_⟩
  rw [hk q (Nat.lt_of_lt_of_le h1 hB.2.2.1)]
  exact hB.2.2.2.1 q h1 h2
/-- throw new X(text) -/
theorem s_thr {cls text : String} {ke ik is ic : Nat} {Qc : Array Value → State → Outcome → State → Prop} (E : CallFix p m c cc nL s args wsL_law RX6) (hU : sU D G s) (hst : l.stackTraces = false) (hZ : sZ (sA ad0 n0 s.heap.size) s) (htab : ∀ x ∈ c.exceptionTable.toList, False) (hlocks : meth.locks = false) (hB : sB D G (sA ad0 n0 s.heap.size) s.heap ad r v n x H locs) (hgo : sGo n0 ad0 n ad) (hl : ls.size = nL) (hX : sXk ke cls ik ic) (htx : (is, text) ∈ sStrs)
    (d0 : decode cc pc = .ok (.new ik, 3)) (d3 : decode cc (pc + 3) = .ok (.dup, 1)) (d4 : decode cc (pc + 4) = .ok (.ldc is, 2)) (d6 : decode cc (pc + 6) = .ok (.invokespecial ic, 3)) (d9 : decode cc (pc + 9) = .ok (.athrow, 1)) (hfr : 5 < R.frames) (hlo : (rest.map fun v => v.category).sum + 82 ≤ R.locals) (hRc : mcT n0 fin ≤ R.cells ∧ msT n0 fin ≤ R.slots)
    (hf : some (Sum.inr ke, r, v, 0) = some rez) (he : fin = fz n rez) : W p l e R s m args below meth c H locs (n - n0) (sz n - sz n0) (vx_MQ below Qc (sXC D G ad0 n0 x s.heap.size fin) args s (mcT n0 fin) (msT n0 fin) (sA ad0 n0 s.heap.size)) (F0 m pc ls rest) := by
  obtain ⟨x1, x2, x3, x4, x5, x6, x7⟩ := hX
  obtain ⟨sa, hsa⟩ := hU.2.2.2.2.2 _ htx
  have hfz : mcT n0 fin = n - n0 + 1 ∧ msT n0 fin = sz n - sz n0 + 6 := by
    cases hf
    subst he
    exact ⟨rfl, rfl⟩
  refine vx_throwS (names := sNames) (A := sA ad0 n0 s.heap.size) (sa := sa) (text := text) E.1 E.2.1 hst E.2.2.2.1 x4 sNames_fit (E.2.2.2.2 _ x2) (E.2.2.2.2 _ x3) hsa (vx_hat (fun w h => E.2.2.2.2 w (x5 w h)) x6 (sBad_ok hU)) x7 hZ.1 hZ.2 hB.2.2 (hl.trans E.2.2.1.symm) d0 d3 d4 d6 d9 (fun z hz => (htab z hz).elim) hfr ?_ ?_ ?_ hlocks (fun t ha hz hk => ?_) hB.2.2.2.2 ?_ ?_
  · exact hlo
  · omega
  · omega
  · rw [← x1]; exact sXC_of hB hgo hf he hz hk
  · omega
  · omega
theorem s_thrW {cls text : String} {ke ik is ic : Nat} {Qc : Array Value → State → Outcome → State → Prop} (E : CallFix p m c cc nL s args wsL_law RX6) (hU : sU D G s) (hst : l.stackTraces = false) (hZ : sZ (sA ad0 n0 s.heap.size) s) (htab : ∀ x ∈ c.exceptionTable.toList, False) (hlocks : meth.locks = false) (hB : sB D G (sA ad0 n0 s.heap.size) s.heap ad r v n x H locs) (hgo : sGo n0 ad0 n ad) (hl : ls.size = nL) (hX : sXk ke cls ik ic) (htx : (is, text) ∈ sStrs)
    (d0 : decode cc pc = .ok (.new ik, 3)) (d3 : decode cc (pc + 3) = .ok (.dup, 1)) (d4 : decode cc (pc + 4) = .ok (.ldc_w is, 3)) (d7 : decode cc (pc + 7) = .ok (.invokespecial ic, 3)) (d10 : decode cc (pc + 10) = .ok (.athrow, 1)) (hfr : 5 < R.frames) (hlo : (rest.map fun v => v.category).sum + 82 ≤ R.locals) (hRc : mcT n0 fin ≤ R.cells ∧ msT n0 fin ≤ R.slots)
    (hf : some (Sum.inr ke, r, v, 0) = some rez) (he : fin = fz n rez) : W p l e R s m args below meth c H locs (n - n0) (sz n - sz n0) (vx_MQ below Qc (sXC D G ad0 n0 x s.heap.size fin) args s (mcT n0 fin) (msT n0 fin) (sA ad0 n0 s.heap.size)) (F0 m pc ls rest) := by
  obtain ⟨x1, x2, x3, x4, x5, x6, x7⟩ := hX
  obtain ⟨sa, hsa⟩ := hU.2.2.2.2.2 _ htx
  have hfz : mcT n0 fin = n - n0 + 1 ∧ msT n0 fin = sz n - sz n0 + 6 := by
    cases hf
    subst he
    exact ⟨rfl, rfl⟩
  refine vx_throwSW (names := sNames) (A := sA ad0 n0 s.heap.size) (sa := sa) (text := text) E.1 E.2.1 hst E.2.2.2.1 x4 sNames_fit (E.2.2.2.2 _ x2) (E.2.2.2.2 _ x3) hsa (vx_hat (fun w h => E.2.2.2.2 w (x5 w h)) x6 (sBad_ok hU)) x7 hZ.1 hZ.2 hB.2.2 (hl.trans E.2.2.1.symm) d0 d3 d4 d7 d10 (fun z hz => (htab z hz).elim) hfr ?_ ?_ ?_ hlocks (fun t ha hz hk => ?_) hB.2.2.2.2 ?_ ?_
  · exact hlo
  · omega
  · omega
  · rw [← x1]; exact sXC_of hB hgo hf he hz hk
  · omega
  · omega
end STH
