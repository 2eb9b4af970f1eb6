/-! METHODS THAT THROW: the answer is a number, or which exception -/
def sZ (A : Nat → Prop) (U : State) : Prop := vx_Zq Bundle.tN "UNASSIGNED_STACK" Bundle.steD A U U.heap ∧ vx_Zq Bundle.tN "SUPPRESSED_SENTINEL" Bundle.listD A U U.heap
def exn (k : Nat) : String := match k with
  | 1 => "java/lang/IndexOutOfBoundsException"
  | 2 => "java/lang/IllegalArgumentException"
  | 3 => "java/lang/IllegalStateException"
  | 4 => "java/util/NoSuchElementException"
  | _ => "java/lang/ArithmeticException"
def exc {α : Type} (o : Sum α Nat) : Nat := match o with
  | .inl _ => 0
  | .inr _ => 1
def sPT (D : va_G) (G : Nat → ClassId) (ad : Nat → Nat) (r : sR) (v : sV) (n : Nat) (x : Int64 × UInt64) (sz0 : Nat) (av : List Value) : Array Value → State → Prop := va_Pc av (fun U => U.heap.size = sz0 ∧ sU D G U ∧ va_P D vwCl (sWl G ad r v n x) U.heap ∧ va_D (fun _ => True) (sWl G ad r v n x) ∧ sZ (sA ad r n sz0) U)
def sXC {α : Type} (D : va_G) (G : Nat → ClassId) (ad : Nat → Nat) (r : sR) (n : Nat) (x : Int64 × UInt64) (sz0 : Nat) (fin : Sum α Nat × sR × sV × Nat) : String → State → State → Prop := vx_X (fun ad' : Nat → Nat => sGo r n ad fin.2.1 fin.2.2.2 ad') (fun E ad' t => (∃ k, fin.1 = .inr k ∧ E = exn k) ∧ sE D G ad r n x sz0 fin.2.1 fin.2.2.1 fin.2.2.2 ad' t) (sA ad r n sz0)
def sQTi (D : va_G) (G : Nat → ClassId) (ad : Nat → Nat) (r : sR) (n : Nat) (x : Int64 × UInt64) (sz0 : Nat) (fin : Sum Int32 Nat × sR × sV × Nat) : Array Value → State → Outcome → State → Prop := va_Qi (fun (q : Int32) (ad' : Nat → Nat) => fin.1 = .inl q ∧ sGo r n ad fin.2.1 fin.2.2.2 ad') (fun ad' t => sE D G ad r n x sz0 fin.2.1 fin.2.2.1 fin.2.2.2 ad' t) (sA ad r n sz0)
def sQTv (D : va_G) (G : Nat → ClassId) (ad : Nat → Nat) (r : sR) (n : Nat) (x : Int64 × UInt64) (sz0 : Nat) (fin : Sum Unit Nat × sR × sV × Nat) : Array Value → State → Outcome → State → Prop := va_Qv (fun (ad' : Nat → Nat) => fin.1 = .inl () ∧ sGo r n ad fin.2.1 fin.2.2.2 ad') (fun ad' t => sE D G ad r n x sz0 fin.2.1 fin.2.2.1 fin.2.2.2 ad' t) (sA ad r n sz0)
def sQTd (D : va_G) (G : Nat → ClassId) (ad : Nat → Nat) (r : sR) (n : Nat) (x : Int64 × UInt64) (sz0 : Nat) (fin : Sum UInt64 Nat × sR × sV × Nat) : Array Value → State → Outcome → State → Prop := va_Qd (fun (q : UInt64) (ad' : Nat → Nat) => fin.1 = .inl q ∧ sGo r n ad fin.2.1 fin.2.2.2 ad') (fun ad' t => sE D G ad r n x sz0 fin.2.1 fin.2.2.1 fin.2.2.2 ad' t) (sA ad r n sz0)
def sQTf (D : va_G) (G : Nat → ClassId) (ad : Nat → Nat) (r : sR) (n : Nat) (x : Int64 × UInt64) (sz0 : Nat) (fin : Sum UInt32 Nat × sR × sV × Nat) : Array Value → State → Outcome → State → Prop := va_Qf (fun (q : UInt32) (ad' : Nat → Nat) => fin.1 = .inl q ∧ sGo r n ad fin.2.1 fin.2.2.2 ad') (fun ad' t => sE D G ad r n x sz0 fin.2.1 fin.2.2.1 fin.2.2.2 ad' t) (sA ad r n sz0)
def sQTr (D : va_G) (G : Nat → ClassId) (ad : Nat → Nat) (r : sR) (n : Nat) (x : Int64 × UInt64) (sz0 : Nat) (fin : Sum Nat Nat × sR × sV × Nat) : Array Value → State → Outcome → State → Prop := va_Qr (fun (ad' : Nat → Nat) => sGo r n ad fin.2.1 fin.2.2.2 ad') (fun ad' a t => (∃ q, fin.1 = .inl q ∧ a = ad' q) ∧ sE D G ad r n x sz0 fin.2.1 fin.2.2.1 fin.2.2.2 ad' t) (sA ad r n sz0)
/-- how many cells and slots a throwing method may use -/
def mcT {α : Type} (n : Nat) (fin : Sum α Nat × sR × sV × Nat) : Nat := fin.2.2.2 - n + exc fin.1
def msT {α : Type} (n : Nat) (fin : Sum α Nat × sR × sV × Nat) : Nat := sz fin.2.2.2 - sz n + 6 * exc fin.1
def sMT {α : Type} (QT : va_G → (Nat → ClassId) → (Nat → Nat) → sR → Nat → Int64 × UInt64 → Nat → Sum α Nat × sR × sV × Nat → Array Value → State → Outcome → State → Prop) (l : Launch) (y : MethodName) (ws : List Cond) (rm : Nat → Nat → Room) (D : va_G) (G : Nat → ClassId) (ad : Nat → Nat) (r : sR) (v : sV) (n : Nat) (x : Int64 × UInt64) (av : List Value) (o : Option (Sum α Nat × sR × sV × Nat)) : Prop :=
  ∀ (sz0 : Nat) (q0 : Sum α Nat × sR × sV × Nat), o = some q0 → vx_Met l y ws (rm (mcT n (fz n q0)) (msT n (fz n q0))) (sPT D G ad r v n x sz0 av) (QT D G ad r n x sz0 (fz n q0)) (sXC D G ad r n x sz0 (fz n q0)) (mcT n (fz n q0)) (msT n (fz n q0)) (sA ad r n sz0)
theorem sZ.calling {A : Nat → Prop} {U : State} {g : JFrame} {mk : MethodId} {a : Array Value} (h : sZ A U) : sZ A (U.calling g mk a) := ⟨vx_Zq.moved (u := U) (U := U.calling g mk a) (Vm.Alike.refl U.vm) h.1, vx_Zq.moved (u := U) (U := U.calling g mk a) (Vm.Alike.refl U.vm) h.2⟩
theorem fb_T {D : va_G} {G : Nat → ClassId} {ad : Nat → Nat} {r : sR} {v : sV} {n : Nat} {x : Int64 × UInt64} {sz0 : Nat} {av : List Value} : FrameBlind (sPT D G ad r v n x sz0 av) := fun _ _ _ _ q => ⟨q.1, q.2.1, q.2.2.1.calling, q.2.2.2.1, q.2.2.2.2.1, q.2.2.2.2.2.calling⟩
theorem va_P_keep {D : va_G} {cl : List vw_C} {ws : va_W} {H H1 : Heap} (hP : va_P D cl ws H) (hk : ∀ q : Nat, q < H.size → H1[q]? = H[q]?) : va_P D cl ws H1 := by
  intro k q hq
  have h := hP k q hq
  refine h.kept (hk q.1 ?_)
  have hs : ∃ c : Cell, H[q.1]? = some c := by
    unfold va_at at h
    split at h
    · exact ⟨_, h⟩
    · obtain ⟨_, _, c, hc, _⟩ := h
      exact ⟨c, hc⟩
  obtain ⟨c, hc⟩ := hs
  exact (Array.getElem?_eq_some_iff.mp hc).1
/-- the words of a throw that the tables alone don't pass on -/
def sBadW : List Cond := sDecl.map Cond.declares ++ sXs.map (fun w => Cond.castable w w)
theorem sBad_ok {D : va_G} {G : Nat → ClassId} {s : State} {args : Array Value} (hU : sU D G s) : ∀ w ∈ sBadW, w.before args s = true := by
  intro w hw
  rcases List.mem_append.mp hw with h | h
  · obtain ⟨y, hy, rfl⟩ := List.mem_map.mp h
    exact va_Nw.use rfl (hU.2.2.2.1 y hy)
  · obtain ⟨y, hy, rfl⟩ := List.mem_map.mp h
    exact va_Nw.use rfl (hU.2.2.2.2.1 y hy)
def sNames : List String := ["java/lang/RuntimeException", "java/lang/Exception"]
set_option maxRecDepth 100000 in
theorem bw76 : ∀ w ∈ (vx_atS RX6 76 "java/lang/IllegalStateException" sNames).filter (fun w => !goodWord w), w ∈ sBadW := by decide +kernel
set_option maxRecDepth 100000 in
theorem bw291 : ∀ w ∈ (vx_atS RX6 291 "java/lang/IndexOutOfBoundsException" sNames).filter (fun w => !goodWord w), w ∈ sBadW := by decide +kernel
set_option maxRecDepth 100000 in
theorem bw104 : ∀ w ∈ (vx_atS RX6 104 "java/lang/IllegalArgumentException" sNames).filter (fun w => !goodWord w), w ∈ sBadW := by decide +kernel
set_option maxRecDepth 100000 in
theorem bw304 : ∀ w ∈ (vx_atS RX6 304 "java/lang/ArithmeticException" sNames).filter (fun w => !goodWord w), w ∈ sBadW := by decide +kernel
theorem gw76 : ∀ w ∈ (vx_atS RX6 76 "java/lang/IllegalStateException" sNames).filter goodWord, w ∈ wsL_law := fun w h => List.mem_append_left _ (List.mem_append_left _ (List.mem_append_left _ (List.mem_append_left _ (List.mem_append_right _ h))))
theorem gw291 : ∀ w ∈ (vx_atS RX6 291 "java/lang/IndexOutOfBoundsException" sNames).filter goodWord, w ∈ wsL_law := fun w h => List.mem_append_left _ (List.mem_append_left _ (List.mem_append_left _ (List.mem_append_right _ h)))
theorem gw104 : ∀ w ∈ (vx_atS RX6 104 "java/lang/IllegalArgumentException" sNames).filter goodWord, w ∈ wsL_law := fun w h => List.mem_append_left _ (List.mem_append_left _ (List.mem_append_right _ h))
theorem gw278 : ∀ w ∈ (sNX RX6 278).filter goodWord, w ∈ wsL_law := fun w h => List.mem_append_left _ (List.mem_append_right _ h)
theorem gw304 : ∀ w ∈ (vx_atS RX6 304 "java/lang/ArithmeticException" sNames).filter goodWord, w ∈ wsL_law := fun w h => List.mem_append_right _ h
/-- an exception's class: its number, name, the entries of its link and of its constructor -/
def sXk (k : Nat) (cls : String) (ik ic : Nat) : Prop := exn k = cls ∧ Cond.classLink RX6 ik cls ∈ wsL_law ∧ Cond.initialized cls ∈ wsL_law ∧ Bundle.fit cls = true ∧ (∀ w ∈ (vx_atS RX6 ic cls sNames).filter goodWord, w ∈ wsL_law) ∧ (∀ w ∈ (vx_atS RX6 ic cls sNames).filter (fun w => !goodWord w), w ∈ sBadW) ∧ ∀ w ∈ Cond.classLink RX6 ik cls :: Cond.initialized cls :: vx_atS RX6 ic cls sNames, vx_ot w = true
def sXN (ik : Nat) : Prop := Cond.classLink RX6 ik "java/util/NoSuchElementException" ∈ wsL_law ∧ Cond.initialized "java/util/NoSuchElementException" ∈ wsL_law
theorem sNames_fit : ∀ n ∈ sNames, Bundle.fit n = true := by decide +kernel
/-! NoSuchElementException: its constructor calls its superclass's by entry 13 -/
def sNB : ByteArray := ⟨#[0x2a, 0x2b, 0xb7, 0x00, 0x0d, 0xb1]⟩
def sNE : String := "java/util/NoSuchElementException"
def sRE : String := "java/lang/RuntimeException"
theorem sNB0 : decode sNB 0 = .ok (.aload_n 0, 1) := by decide +kernel
theorem sNB1 : decode sNB 1 = .ok (.aload_n 1, 1) := by decide +kernel
theorem sNB2 : decode sNB 2 = .ok (.invokespecial 13, 3) := by decide +kernel
theorem sNB5 : decode sNB 5 = .ok (.return_, 1) := by decide +kernel
theorem sNE_fit : Bundle.fit sNE = true := by decide +kernel
theorem sRE_fit : Bundle.fit sRE = true := by decide +kernel
def sNchain : List Cond := Bundle.passSAtoms sNE sRE 13 sNB ++ Bundle.chainSAtoms sRE ["java/lang/Exception"]
def sNtail (own : String) (ic : Nat) : List Cond :=
  [Cond.methodLink own ic (Bundle.initS sNE), Cond.instantiable sNE 6, Cond.castable sNE sNE, Cond.selects sNE Bundle.tFill0 Bundle.tFill0, Cond.selects sNE Bundle.tFill Bundle.tFill,
   Cond.lays sNE Bundle.tN "cause" "Ljava/lang/Throwable;", Cond.lays sNE Bundle.tN "stackTrace" Bundle.steD, Cond.lays sNE Bundle.tN "suppressedExceptions" Bundle.listD, Cond.lays sNE Bundle.tN "detailMessage" "Ljava/lang/String;",
   Cond.isRef (Term.static Bundle.tN "UNASSIGNED_STACK" Bundle.steD), Cond.isRef (Term.static Bundle.tN "SUPPRESSED_SENTINEL" Bundle.listD),
   Cond.fieldLink Bundle.tN 198 Bundle.tN "backtrace" "Ljava/lang/Object;", Cond.lays Bundle.tN Bundle.tN "backtrace" "Ljava/lang/Object;", Cond.lays sNE Bundle.tN "backtrace" "Ljava/lang/Object;"]
def sNA (own : String) (ic : Nat) : List Cond := Bundle.throwableAtoms ++ Bundle.throwableSAtoms ++ sNchain ++ sNtail own ic
theorem sNA_eq (own : String) (ic : Nat) : sNX own ic = (sNA own ic).filter vx_no := rfl
theorem sN_chain {args : Array Value} {s : State} {pl : Platform} (hpl : pl.magicAccessors = ({} : Platform).magicAccessors) {top : MethodId} (htop : s.methodNamed? (Bundle.initS Bundle.tN) = some top) (h : ∀ c ∈ sNchain, c.before args s = true) :
    ∃ (P : PassC) (Ps : List PassC), Ps.length = 2 ∧ P.LinksS pl s ∧ (∀ Q, Q ∈ Ps → Q.LinksS pl s) ∧ s.methodNamed? (Bundle.initS sNE) = some P.m ∧ P.sup = firstOf top (Ps.map (·.toPassT)) ∧ PassesOn top (Ps.map (·.toPassT)) := by
  obtain ⟨P, L, hm, hs⟩ := PassC.ofS_atoms (args := args) (s := s) hpl (X := sNE) (Y := sRE) (Bundle.fit_spec sNE_fit).1 (Bundle.fit_spec sRE_fit).2 sNB0 sNB1 sNB2 sNB5 (fun c hc => h c (List.mem_append_left _ hc))
  obtain ⟨P', Ps, hlen, L', hL, hm', hsup, hpass⟩ := Bundle.chainS (args := args) hpl htop ["java/lang/Exception"] sRE sRE_fit (by decide +kernel) (fun c hc => h c (List.mem_append_right _ hc))
  refine ⟨P, P' :: Ps, by rw [List.length_cons, hlen]; rfl, L, fun Q hQ => ?_, hm, Option.some.inj (hs.symm.trans hm'), hsup, hpass⟩
  rcases List.mem_cons.mp hQ with rfl | hQ
  · exact L'
  · exact hL Q hQ
section SNE
variable {p : Program} {l : Launch} {e : Env} {R : Room} {s : State} {m : MethodId} {args : Array Value} {below : List Frame} {meth : Method} {c : Code} {W : State} {cells slots : Nat}
set_option maxHeartbeats 1000000 in
theorem sN_ctor (X : Stand p l e R s m args below meth c W [] cells slots) (hexec : p.tables.exec = Jvm.exec) (htr : e.platform.stackTraces = false) {own : String} {ic : Nat}
    (hown : s.vm.findClass own = some m.cls) (h : ∀ w ∈ sNA own ic, w.before args s = true)
    {a : Addr} {cX : ClassId} {kX : Class} (hfoundX : s.vm.findClass sNE = some cX) (hkX : s.vm.classes[cX]? = some kX) (hcell : W.heap[a]? = some (freshCell cX kX)) (hnew : s.heap.size ≤ a)
    {msg : Value} (hmsg : msg.isRef = true) {g : JFrame} (hg : g.method = m) (hsize : g.locals.size = c.maxLocals) (hlocked : g.locked = none) (hentered : g.entered = []) {rest : List Value} (hstack : g.stack = msg :: .ref a :: .ref a :: rest)
    (hd6 : decode c.code g.pc = .ok (.invokespecial ic, 3)) (hd9 : decode c.code (g.pc + 3) = .ok (.athrow, 1)) (hout : ∀ x ∈ c.exceptionTable.toList, covers x (g.pc + 3) = false)
    (hRframes : 5 < R.frames) (hRlocals : 2 * g.monitorRoom + ((Value.ref a :: rest).map fun v => v.category).sum + 81 ≤ R.locals) (hlocks : meth.locks = false) :
    ∃ U : State, Steps p.tables e below (W.setTop g) U ∧ U.status = .running ∧ Ended U below (.threw a) ∧ s.WarmedH U.vm ∧ s.sameButNew ({ U with vm := s.vm } : State) [] cells slots ∧
      ∃ ce, U.heap[a]? = some ce ∧ s.vm.findClass sNE = some ce.cls ∧ ce.vm = .none := by
  have howns : e.platform.frameOwnsMonitors = true := by rw [X.admits.platform]
  have hfin : e.platform.finalization = false := by rw [X.admits.platform]
  have hpl : e.platform.magicAccessors = ({} : Platform).magicAccessors := by rw [X.admits.platform]
  have wT : ∀ w ∈ sNtail own ic, w.holds args s none s [] = true := fun w hw => h w (List.mem_append_right _ hw)
  have wC : ∀ w ∈ sNchain, w.before args s = true := fun w hw => h w (List.mem_append_left _ (List.mem_append_right _ hw))
  obtain ⟨T, Z0, L, -, Y⟩ := ThrowableC.of_atoms (args := args) howns hfin hpl (fun w hw => h w (List.mem_append_left _ (List.mem_append_left _ (List.mem_append_left _ hw))))
  obtain ⟨Z, M, LZ, LM, hnZ⟩ := Init0T.ofS_atoms (args := args) hpl L Y (fun w hw => h w (List.mem_append_left _ (List.mem_append_left _ (List.mem_append_right _ hw))))
  obtain ⟨P1, Ps, hlen, L1, hL, hP1m, hlink1, hlink⟩ := sN_chain (args := args) hpl hnZ wC
  have hfound : s.vm.findClass sNE = some P1.m.cls := findClass_of_methodNamed hP1m
  cases Option.some.inj (hfoundX.symm.trans hfound)
  obtain ⟨c1, kX', hc1, hk, hord, -, -, hn6⟩ := Cond.instantiable_spec (wT (.instantiable sNE 6) (by simp [sNtail]))
  cases Option.some.inj (hc1.symm.trans hfound)
  cases Option.some.inj (hkX.symm.trans hk)
  have hsel0 : selectMethod e.platform s.vm P1.m.cls T.fill0 = .method T.fill0 := by
    obtain ⟨c2, r2, m2, q1, q2, q3, q4, -⟩ := Cond.selects_spec (wT (.selects sNE Bundle.tFill0 Bundle.tFill0) (by simp [sNtail]))
    cases Option.some.inj (q1.symm.trans hfound)
    cases Option.some.inj (q2.symm.trans (State.methodFound?_of_named Y.fill0 (by decide)))
    cases Option.some.inj (q3.symm.trans Y.fill0)
    rw [Launch.admits_selectMethod X.admits]; exact q4
  have hselF : selectMethod e.platform s.vm P1.m.cls T.fill = .method T.fill := by
    obtain ⟨c2, r2, m2, q1, q2, q3, q4, -⟩ := Cond.selects_spec (wT (.selects sNE Bundle.tFill Bundle.tFill) (by simp [sNtail]))
    cases Option.some.inj (q1.symm.trans hfound)
    cases Option.some.inj (q2.symm.trans (State.methodFound?_of_named Y.fill (by decide)))
    cases Option.some.inj (q3.symm.trans Y.fill)
    rw [Launch.admits_selectMethod X.admits]; exact q4
  obtain ⟨cS0, hcS0, hiss⟩ := Y.statics
  obtain ⟨u0, hu0⟩ := Cond.staticRefV Y.unassigned L.unassignedStatic L.statics hcS0 hiss (wT (.isRef (.static Bundle.tN "UNASSIGNED_STACK" Bundle.steD)) (by simp [sNtail]))
  obtain ⟨sen, hsen⟩ := Cond.staticRefV Y.sentinel L.sentinelStatic L.statics hcS0 hiss (wT (.isRef (.static Bundle.tN "SUPPRESSED_SENTINEL" Bundle.listD)) (by simp [sNtail]))
  obtain ⟨ci198, i198, fB, hk198, hg198, ha198, hsB, -, hnB, htB, hffB⟩ := Cond.ownField (t := .object "java/lang/Object") Y.found L.cls (by decide +kernel) (wT (.fieldLink Bundle.tN 198 Bundle.tN "backtrace" "Ljava/lang/Object;") (by simp [sNtail])) (wT (.lays Bundle.tN Bundle.tN "backtrace" "Ljava/lang/Object;") (by simp [sNtail])) e.platform hpl
  obtain ⟨cS, hcS', heS, -, hkeep⟩ := X.same.2.2.2.2.2 T.aS cS0 hcS0
  have hcS : W.heap[T.aS]? = some cS := hcS'
  have hknownS : cS.vm ≠ .unknown := by
    rw [heS]; intro hu
    rw [show cS0.vm = .unknown from hu] at hiss
    cases hiss
  have hneS : T.aS ≠ a := Nat.ne_of_lt (Nat.lt_of_lt_of_le (Array.getElem?_eq_some_iff.mp hcS0).1 hnew)
  obtain ⟨iM, hffM⟩ := Y.msg
  obtain ⟨tyC, dC, hdC, hdnC⟩ := Cond.laysAt hfound hk Y.cause (wT (.lays sNE Bundle.tN "cause" "Ljava/lang/Throwable;") (by simp [sNtail]))
  obtain ⟨tyS, dS, hdS, hdnS⟩ := Cond.laysAt hfound hk Y.stack (wT (.lays sNE Bundle.tN "stackTrace" Bundle.steD) (by simp [sNtail]))
  obtain ⟨tyP, dP, hdP, hdnP⟩ := Cond.laysAt hfound hk Y.supp (wT (.lays sNE Bundle.tN "suppressedExceptions" Bundle.listD) (by simp [sNtail]))
  obtain ⟨tyM, dM, hdM, hdnM⟩ := Cond.laysAt hfound hk hffM (wT (.lays sNE Bundle.tN "detailMessage" "Ljava/lang/String;") (by simp [sNtail]))
  obtain ⟨tyB, dB, hdB, hdnB⟩ := Cond.laysAt hfound hk hffB (wT (.lays sNE Bundle.tN "backtrace" "Ljava/lang/Object;") (by simp [sNtail]))
  have bC := Cond.laysApart hdB hdC hdnB hdnC (by rw [hnB, Y.causeName]; decide)
  have bS := Cond.laysApart hdB hdS hdnB hdnS (by rw [hnB, Y.stackName]; decide)
  have bP := Cond.laysApart hdB hdP hdnB hdnP (by rw [hnB, Y.suppName]; decide)
  have hskip : SkipFacts T e.platform s (fun u => u) u0 ((preparedCellV T.toThrowableT (freshCell P1.m.cls kX) a u0 sen).withEntry W.cur) :=
    ⟨{ ci198 := ci198, i198 := i198, fBack := fB }, ⟨hk198, hg198, ha198, hsB⟩, by
      have := fresh_default (c := P1.m.cls) tyB
      rw [htB] at this
      simpa [preparedCellV, Cell.setSlot, Cell.withEntry, Array.getElem?_setIfInBounds, bC, bS, bP, bC.symm, bS.symm, bP.symm, defaultValue] using this, fun _ _ => rfl⟩
  have wI : (Cond.instanceMethod (Bundle.initS sNE)).before args s = true := wC _ (List.mem_append_left _ (by simp [Bundle.passSAtoms]))
  have wK : (Cond.code (Bundle.initS sNE) sNB 2 none).before args s = true := wC _ (List.mem_append_left _ (by simp [Bundle.passSAtoms]))
  obtain ⟨tm, methC, cdC, kC, vm₁, hnC, -, -, -, -, -, -, -, hW₁, st1⟩ := Steps.initColdS (tb := p.tables) (e := e) (below := below) (s := s) (U := W) X.here hexec X.warmed hpl hown (t := Bundle.initS sNE) rfl rfl (Bundle.fit_spec sNE_fit).2
    (wT (.methodLink own ic (Bundle.initS sNE)) (by simp [sNtail])) wI (bytes := sNB) (maxL := 2) wK (f := g) hg (a := a) (msg := msg) (rest := .ref a :: rest) hstack hd6
  cases Option.some.inj (hnC.symm.trans hP1m)
  have X₁ := X.noted hW₁
  obtain ⟨vm₂, X₂, st2⟩ := X₁.ctorMessageOffV hexec (g := { g with stack := .ref a :: rest }) hg hsize T L Z LZ M LM (P1 :: Ps)
    (fun P hP => by rcases List.mem_cons.mp hP with rfl | hP; exact L1; exact hL P hP) ⟨hlink1, hlink⟩ (u0 := u0) (sen := sen) (self := a) hmsg (cell := freshCell P1.m.cls kX) (cellS := cS)
    hcell (fun _ => by simp) (by simp) rfl rfl hsel0 hselF hcS hneS hknownS (by rw [hkeep _ (fun hz => nomatch hz)]; exact hu0) (by rw [hkeep _ (fun hz => nomatch hz)]; exact hsen)
    (Takes.of_laid hk hord tyC (by rw [Y.causeType]; rfl)) (Takes.of_laid hk hord tyS (by rw [Y.stackType]; exact fits_refV_array _ u0)) (Takes.of_laid hk hord tyP (by rw [Y.suppType]; exact fits_refV_object _ sen))
    (Takes.of_laid hk hord tyM (by rw [Y.msgType]; exact fits_refV_object _ ⟨msg, hmsg⟩)) Y.objLocals hskip htr [] hd6
    (by simp only [List.length_cons, hlen]; omega) (by simp only [List.length_cons, hlen]; exact hRlocals)
  obtain ⟨hwalk, hrun, hended, hWU, hsame⟩ := X₂.athrowLeaves hexec (g := { g with stack := .ref a :: rest, pc := g.pc + 3 }) hg hlocked hentered hout (a := a) (rest := rest) rfl hd9
  have hlt : a < ((W.setVm vm₁).setVm vm₂).heap.size := (Array.getElem?_eq_some_iff.mp hcell).1
  have hU := heapAt_setCell_self (s := (W.setVm vm₁).setVm vm₂) (plainBareV T.toThrowableT (freshCell P1.m.cls kX) a u0 sen msg) hlt
  refine ⟨_, st1 _ (fun acts => ?_), hrun, hended, hWU, hsame.weaken (fun y hy hlt' => ?_) (Nat.le_refl _) (Nat.le_refl _), _, hU, hfound, rfl⟩
  · rw [doInvoke_state]
    exact st2 _ hwalk
  · exfalso
    have hb : y.base = a := by
      simp only [List.nil_append, List.mem_cons, List.not_mem_nil, or_false] at hy
      rcases hy with rfl | rfl | rfl | rfl | rfl <;> rfl
    rw [hb] at hlt'
    exact Nat.not_lt.mpr hnew hlt'
end SNE
set_option maxRecDepth 100000 in
theorem bw278 : ∀ w ∈ (sNX RX6 278).filter (fun w => !goodWord w), w ∈ sBadW := by decide +kernel
set_option maxRecDepth 100000 in
theorem ow278 : ∀ w ∈ sNX RX6 278, vx_ot w = true := by decide +kernel
section SNE2
variable {p : Program} {l : Launch} {e : Env} {R : Room} {s : State} {m : MethodId} {args : Array Value} {below : List Frame} {meth : Method} {c : Code} {H : Heap} {locs : List Loc} {cells slots : Nat} {pc : Nat} {ls : Array Slot} {rest : List Value} {cc : ByteArray} {free : Addr → Prop} {Qc : Array Value → State → Outcome → State → Prop} {XC : String → State → State → Prop}
theorem sN_throw (hexec : p.tables.exec = Jvm.exec) (hb : c.code = cc) (hl : l.stackTraces = false) {own text : String} {ik is ic mc ms sa : Nat} {A : Nat → Prop}
    (hown : s.vm.findClass own = some m.cls) (hk : (Cond.classLink own ik sNE).before args s = true) (hini : (Cond.initialized sNE).before args s = true) (hstr : vk_R own is text sa s) (hat : ∀ w ∈ sNX own ic, w.before args s = true)
    (hgood : ∀ w ∈ sNX own ic, vx_ot w = true)
    (hU : vx_Zq Bundle.tN "UNASSIGNED_STACK" Bundle.steD A s s.heap) (hN : vx_Zq Bundle.tN "SUPPRESSED_SENTINEL" Bundle.listD A s s.heap) (hS : va_S A s.heap H locs) (hsize : ls.size = c.maxLocals)
    (d0 : decode cc pc = .ok (.new ik, 3)) (d3 : decode cc (pc + 3) = .ok (.dup, 1)) (d4 : decode cc (pc + 4) = .ok (.ldc_w is, 3)) (d7 : decode cc (pc + 7) = .ok (.invokespecial ic, 3)) (d10 : decode cc (pc + 10) = .ok (.athrow, 1))
    (hout : ∀ x ∈ c.exceptionTable.toList, covers x (pc + 10) = false)
    (hRframes : 5 < R.frames) (hRlocals : (rest.map fun v => v.category).sum + 82 ≤ R.locals) (hRcells : cells + 1 ≤ R.cells) (hRslots : slots + 6 ≤ R.slots) (hlocks : meth.locks = false)
    (hx : ∀ t : State, s.vm.Alike t.vm → H.size ≤ t.heap.size → (∀ q : Nat, q < H.size → t.heap[q]? = H[q]?) → XC sNE s t)
    (hf : ∀ z ∈ locs, free z.base) (hc : cells + 1 ≤ mc) (hs : slots + 6 ≤ ms) :
    W p l e R s m args below meth c H locs cells slots (vx_MQ below Qc XC args s mc ms free) (F0 m pc ls rest) := by
  intro T hT X
  have htr : e.platform.stackTraces = false := (show e.platform.stackTraces = l.stackTraces by rw [X.admits.platform]).trans hl
  have Y := vx_rebase X (R' := { frames := R.frames, locals := R.locals, cells := 1, slots := 6 }) (Nat.le_refl _) (Nat.le_refl _) hRcells hRslots
  obtain ⟨s', hA⟩ : ∃ z, z = (T.setVm s.vm).setFrames (.invoking m args :: below) := ⟨_, rfl⟩
  rw [← hA] at Y
  have hvm : s'.vm = s.vm := by rw [hA]; rfl
  have hhp : s'.heap = H := by rw [hA]; exact hT
  have hW0 : s.WarmedH s'.vm := by rw [hvm]; exact State.WarmedH.refl s
  have hat' : ∀ w ∈ sNX own ic, w.before args s' = true := fun w hw => vx_ot_at hW0 hvm.symm (hgood w hw) (hat w hw)
  have hk' : (Cond.classLink own ik sNE).before args s' = true := vx_ot_at hW0 hvm.symm rfl hk
  have hini' : (Cond.initialized sNE).before args s' = true := vx_ot_at hW0 hvm.symm rfl hini
  have hU' : vx_Zq Bundle.tN "UNASSIGNED_STACK" Bundle.steD A s' s'.heap := by rw [hhp]; exact vx_Zq.moved hW0.alike (hU.kept hS.2.1)
  have hN' : vx_Zq Bundle.tN "SUPPRESSED_SENTINEL" Bundle.listD A s' s'.heap := by rw [hhp]; exact vx_Zq.moved hW0.alike (hN.kept hS.2.1)
  have h : ∀ w ∈ sNA own ic, w.before args s' = true := vx_own (by rw [← sNA_eq]; exact hat') (vx_isRefq hU'.1) (vx_isRefq hN'.1) hU'.2.word hN'.2.word
  have hown' : s'.vm.findClass own = some m.cls := by rw [hvm]; exact hown
  have hins : (Cond.instantiable sNE 6).before args s' = true := h _ (List.mem_append_right _ (by simp [sNtail]))
  obtain ⟨vm₁, cX, kX, hfX, hkX, -, -, X₁, st1⟩ := Y.newCold hexec (own := own) (C := sNE) (index := ik) (n := 6) hown' hk' hins hini'
    (g := F0 m pc ls rest) rfl (by rw [hb]; exact d0) (Nat.le_refl _) (Nat.le_refl _)
  generalize hT1 : (T.setVm vm₁).pushCell { cls := cX, slots := kX.instanceTypes.map defaultValue, vm := .none } = T1 at X₁ st1
  have hcat : (Value.ref T.heap.size).category = 1 := rfl
  have hcellA : T1.heap[T.heap.size]? = some (freshCell cX kX) := by rw [← hT1]; exact State.heap_pushCell_size _ _
  have d3' : decode c.code (pc + 3) = .ok (.dup, 1) := by rw [hb]; exact d3
  have d4' : decode c.code (pc + 4) = .ok (.ldc_w is, 3) := by rw [hb]; exact d4
  have hstr' : vk_R own is text sa s' := vk_R.warm hW0 hstr
  obtain ⟨U, hsteps, hrun, hend, hW, hsame, ce, hce, hcl, hvN⟩ := sN_ctor X₁ hexec htr (own := own) (ic := ic) hown' h hfX hkX hcellA (by rw [hhp, hT]; exact Nat.le_refl _) (msg := .ref sa) rfl
    (g := { method := m, pc := pc + 7, locals := ls, stack := .ref sa :: .ref T.heap.size :: .ref T.heap.size :: rest, locked := none }) rfl hsize rfl rfl (rest := rest) rfl
    (by rw [hb]; exact d7) (by rw [hb]; exact d10) hout hRframes (by simp only [List.map_cons, List.sum_cons, hcat]; show 2 * 0 + _ + 81 ≤ R.locals; omega) hlocks
  obtain ⟨f1, f2⟩ := vx_frame hsame
  rw [hhp] at f1 f2
  have hWs : s.WarmedH U.vm := State.WarmedH.trans hW0 hW
  rw [hvm] at hcl
  have hall : s.sameButNew ({ U with vm := s.vm } : State) locs mc ms := by
    subst hA
    obtain ⟨e1, e2⟩ := hsame
    rw [State.setFrames_setFrames] at e1
    have h2 : (T.setVm s.vm).sameButNew ({ U with vm := s.vm } : State) [] (0 + 1) (0 + 6) := ⟨e1, e2⟩
    have h3 := X.same.trans h2
    rw [List.append_nil] at h3
    exact h3.mono hc hs
  refine ⟨U, ?_, .threw T.heap.size, hrun, hend, Or.inr ⟨T.heap.size, rfl, sNE, ce, locs, hx U hWs.alike f1 (fun q hq => f2 q hq (fun z hz => nomatch hz)), hce, hvN, hcl, hWs, hall, hf⟩⟩
  refine st1 _ ?_
  show Steps p.tables e below (T1.setTop { method := m, pc := pc + 3, locals := ls, stack := .ref T.heap.size :: rest, locked := none }) _
  jvm_step X₁.here [X₁.here.top, hexec, d3', Value.category]
  exact X₁.ldcStringW hexec (own := own) (text := text) (index := is) (a := sa) hown' hstr'.1 hstr'.2
    (g := { method := m, pc := pc + 4, locals := ls, stack := .ref T.heap.size :: .ref T.heap.size :: rest, locked := none }) rfl d4' _ hsteps
end SNE2
section STH
variable {p : Program} {l : Launch} {e : Env} {R : Room} {s : State} {m : MethodId} {args : Array Value} {below : List Frame} {meth : Method} {c : Code} {H : Heap} {locs : List Loc} {cells slots : Nat} {Q : State → Prop} {pc : Nat} {ls : Array Slot} {rest st0 As : List Value} {cc : ByteArray} {nL : Nat} {own : String}
variable {D : va_G} {G : Nat → ClassId} {A : Nat → Prop} {H0 : Heap} {ad ad0 : Nat → Nat} {r r0 : sR} {v : sV} {n n0 : Nat} {x : Int64 × UInt64} {α ρ β : Type} {res : ρ} {rez fin : Sum α Nat × sR × sV × Nat}
variable {y : MethodName} {bytes : ByteArray} {maxL index k : Nat} {ret : Option FieldType} {ws : List Cond} {rm : Room}
theorem sXC_of (hB : sB D G (sA ad0 r0 n0 s.heap.size) s.heap ad r v n x H locs) (hgo : sGo r0 n0 ad0 r n ad) {ke : Nat} (hf : some (Sum.inr ke, r, v, 0) = some rez) (he : fin = fz n rez) {t : State} (hz : H.size ≤ t.heap.size) (hk : ∀ q : Nat, q < H.size → t.heap[q]? = H[q]?) : sXC D G ad0 r0 n0 x s.heap.size fin (exn ke) s t := by
  cases hf
  subst he
  refine ⟨ad, hgo, ⟨⟨ke, rfl, rfl⟩, va_P_keep hB.1 hk, hB.2.1⟩, Nat.le_trans hB.2.2.1 hz, fun q h1 h2 => ?_⟩
  rw [hk q (Nat.lt_of_lt_of_le h1 hB.2.2.1)]
  exact hB.2.2.2.1 q h1 h2
theorem aT (he : fin = fz n rez) : n - n0 ≤ mcT n0 fin ∧ sz n - sz n0 ≤ msT n0 fin := aC he (Nat.le_add_right _ _) (Nat.le_add_right _ _)
/-- throw new X(text) -/
theorem s_thr {cls text : String} {ke ik is ic : Nat} {Qc : Array Value → State → Outcome → State → Prop} (E : CallFix p m c cc nL s args wsL_law RX6) (hU : sU D G s) (hst : l.stackTraces = false) (hZ : sZ (sA ad0 r0 n0 s.heap.size) s) (htab : ∀ x ∈ c.exceptionTable.toList, False) (hlocks : meth.locks = false) (hB : sB D G (sA ad0 r0 n0 s.heap.size) s.heap ad r v n x H locs) (hgo : sGo r0 n0 ad0 r n ad) (hl : ls.size = nL) (hX : sXk ke cls ik ic) (htx : (is, text) ∈ sStrs)
    (d0 : decode cc pc = .ok (.new ik, 3)) (d3 : decode cc (pc + 3) = .ok (.dup, 1)) (d4 : decode cc (pc + 4) = .ok (.ldc is, 2)) (d6 : decode cc (pc + 6) = .ok (.invokespecial ic, 3)) (d9 : decode cc (pc + 9) = .ok (.athrow, 1)) (hfr : 5 < R.frames) (hlo : (rest.map fun v => v.category).sum + 82 ≤ R.locals) (hRc : mcT n0 fin ≤ R.cells ∧ msT n0 fin ≤ R.slots)
    (hf : some (Sum.inr ke, r, v, 0) = some rez) (he : fin = fz n rez) : W p l e R s m args below meth c H locs (n - n0) (sz n - sz n0) (vx_MQ below Qc (sXC D G ad0 r0 n0 x s.heap.size fin) args s (mcT n0 fin) (msT n0 fin) (sA ad0 r0 n0 s.heap.size)) (F0 m pc ls rest) := by
  obtain ⟨x1, x2, x3, x4, x5, x6, x7⟩ := hX
  obtain ⟨sa, hsa⟩ := hU.2.2.2.2.2 _ htx
  have hfz : mcT n0 fin = n - n0 + 1 ∧ msT n0 fin = sz n - sz n0 + 6 := by
    cases hf
    subst he
    exact ⟨rfl, rfl⟩
  refine vx_throwS (names := sNames) (A := sA ad0 r0 n0 s.heap.size) (sa := sa) (text := text) E.1 E.2.1 hst E.2.2.2.1 x4 sNames_fit (E.2.2.2.2 _ x2) (E.2.2.2.2 _ x3) hsa (vx_hat (fun w h => E.2.2.2.2 w (x5 w h)) x6 (sBad_ok hU)) x7 hZ.1 hZ.2 hB.2.2 (hl.trans E.2.2.1.symm) d0 d3 d4 d6 d9 (fun z hz => (htab z hz).elim) hfr ?_ ?_ ?_ hlocks (fun t ha hz hk => ?_) hB.2.2.2.2 ?_ ?_
  · exact hlo
  · omega
  · omega
  · rw [← x1]; exact sXC_of hB hgo hf he hz hk
  · omega
  · omega
theorem s_thrW {cls text : String} {ke ik is ic : Nat} {Qc : Array Value → State → Outcome → State → Prop} (E : CallFix p m c cc nL s args wsL_law RX6) (hU : sU D G s) (hst : l.stackTraces = false) (hZ : sZ (sA ad0 r0 n0 s.heap.size) s) (htab : ∀ x ∈ c.exceptionTable.toList, False) (hlocks : meth.locks = false) (hB : sB D G (sA ad0 r0 n0 s.heap.size) s.heap ad r v n x H locs) (hgo : sGo r0 n0 ad0 r n ad) (hl : ls.size = nL) (hX : sXk ke cls ik ic) (htx : (is, text) ∈ sStrs)
    (d0 : decode cc pc = .ok (.new ik, 3)) (d3 : decode cc (pc + 3) = .ok (.dup, 1)) (d4 : decode cc (pc + 4) = .ok (.ldc_w is, 3)) (d7 : decode cc (pc + 7) = .ok (.invokespecial ic, 3)) (d10 : decode cc (pc + 10) = .ok (.athrow, 1)) (hfr : 5 < R.frames) (hlo : (rest.map fun v => v.category).sum + 82 ≤ R.locals) (hRc : mcT n0 fin ≤ R.cells ∧ msT n0 fin ≤ R.slots)
    (hf : some (Sum.inr ke, r, v, 0) = some rez) (he : fin = fz n rez) : W p l e R s m args below meth c H locs (n - n0) (sz n - sz n0) (vx_MQ below Qc (sXC D G ad0 r0 n0 x s.heap.size fin) args s (mcT n0 fin) (msT n0 fin) (sA ad0 r0 n0 s.heap.size)) (F0 m pc ls rest) := by
  obtain ⟨x1, x2, x3, x4, x5, x6, x7⟩ := hX
  obtain ⟨sa, hsa⟩ := hU.2.2.2.2.2 _ htx
  have hfz : mcT n0 fin = n - n0 + 1 ∧ msT n0 fin = sz n - sz n0 + 6 := by
    cases hf
    subst he
    exact ⟨rfl, rfl⟩
  refine vx_throwSW (names := sNames) (A := sA ad0 r0 n0 s.heap.size) (sa := sa) (text := text) E.1 E.2.1 hst E.2.2.2.1 x4 sNames_fit (E.2.2.2.2 _ x2) (E.2.2.2.2 _ x3) hsa (vx_hat (fun w h => E.2.2.2.2 w (x5 w h)) x6 (sBad_ok hU)) x7 hZ.1 hZ.2 hB.2.2 (hl.trans E.2.2.1.symm) d0 d3 d4 d7 d10 (fun z hz => (htab z hz).elim) hfr ?_ ?_ ?_ hlocks (fun t ha hz hk => ?_) hB.2.2.2.2 ?_ ?_
  · exact hlo
  · omega
  · omega
  · rw [← x1]; exact sXC_of hB hgo hf he hz hk
  · omega
  · omega
/-- throw new NoSuchElementException(text): its constructor calls by another entry -/
theorem s_thrWN {text : String} {ik is : Nat} {Qc : Array Value → State → Outcome → State → Prop} (E : CallFix p m c cc nL s args wsL_law RX6) (hU : sU D G s) (hst : l.stackTraces = false) (hZ : sZ (sA ad0 r0 n0 s.heap.size) s) (htab : ∀ x ∈ c.exceptionTable.toList, False) (hlocks : meth.locks = false) (hB : sB D G (sA ad0 r0 n0 s.heap.size) s.heap ad r v n x H locs) (hgo : sGo r0 n0 ad0 r n ad) (hl : ls.size = nL) (hX : sXN ik) (htx : (is, text) ∈ sStrs)
    (d0 : decode cc pc = .ok (.new ik, 3)) (d3 : decode cc (pc + 3) = .ok (.dup, 1)) (d4 : decode cc (pc + 4) = .ok (.ldc_w is, 3)) (d7 : decode cc (pc + 7) = .ok (.invokespecial 278, 3)) (d10 : decode cc (pc + 10) = .ok (.athrow, 1)) (hfr : 5 < R.frames) (hlo : (rest.map fun v => v.category).sum + 82 ≤ R.locals) (hRc : mcT n0 fin ≤ R.cells ∧ msT n0 fin ≤ R.slots)
    (hf : some (Sum.inr 4, r, v, 0) = some rez) (he : fin = fz n rez) : W p l e R s m args below meth c H locs (n - n0) (sz n - sz n0) (vx_MQ below Qc (sXC D G ad0 r0 n0 x s.heap.size fin) args s (mcT n0 fin) (msT n0 fin) (sA ad0 r0 n0 s.heap.size)) (F0 m pc ls rest) := by
  obtain ⟨x2, x3⟩ := hX
  obtain ⟨sa, hsa⟩ := hU.2.2.2.2.2 _ htx
  have hfz : mcT n0 fin = n - n0 + 1 ∧ msT n0 fin = sz n - sz n0 + 6 := by
    cases hf
    subst he
    exact ⟨rfl, rfl⟩
  refine sN_throw (A := sA ad0 r0 n0 s.heap.size) (sa := sa) (text := text) E.1 E.2.1 hst E.2.2.2.1 (E.2.2.2.2 _ x2) (E.2.2.2.2 _ x3) hsa (vx_hat (fun w h => E.2.2.2.2 w (gw278 w h)) bw278 (sBad_ok hU)) ow278 hZ.1 hZ.2 hB.2.2 (hl.trans E.2.2.1.symm) d0 d3 d4 d7 d10 (fun z hz => (htab z hz).elim) hfr hlo ?_ ?_ hlocks (fun t ha hz hk => ?_) hB.2.2.2.2 ?_ ?_
  · omega
  · omega
  · exact sXC_of hB hgo hf he hz hk
  · omega
  · omega
/-! ends -/
theorem s_iretT (E : CallFix p m c cc nL s args wsL_law own) (hr : meth.sig.returnType = some .int) (hlocks : meth.locks = false) (hB : sB D G (sA ad0 r0 n0 s.heap.size) s.heap ad r v n x H locs) (hgo : sGo r0 n0 ad0 r n ad) {y : Int32} {fin rez : Sum Int32 Nat × sR × sV × Nat} {XC : String → State → State → Prop} (hf : some (Sum.inl y, r, v, 0) = some rez) (he : fin = fz n rez) (hdg : decode cc pc = .ok (.ireturn, 1)) : W p l e R s m args below meth c H locs (n - n0) (sz n - sz n0) (vx_MQ below (sQTi D G ad0 r0 n0 x s.heap.size fin) XC args s (mcT n0 fin) (msT n0 fin) (sA ad0 r0 n0 s.heap.size)) (F0 m pc ls [.int y]) := by
  cases hf
  subst he
  exact vx_ret (W.iret (v := y) E.1 E.2.1 hr (fun t ht hW => ⟨⟨y, ad, rfl, ⟨rfl, hgo⟩, sB_at hB ht, hB.2.1⟩, hB.2.2.F ht⟩) hB.2.2.2.2 hdg hlocks)
theorem s_zretT {ty : FieldType} (E : CallFix p m c cc nL s args wsL_law own) (hr : meth.sig.returnType = some ty) (hlocks : meth.locks = false) (hB : sB D G (sA ad0 r0 n0 s.heap.size) s.heap ad r v n x H locs) (hgo : sGo r0 n0 ad0 r n ad) {y : Int32} {fin rez : Sum Int32 Nat × sR × sV × Nat} {XC : String → State → State → Prop} (hn : narrow ty (.int y) = .int y) (hf : some (Sum.inl y, r, v, 0) = some rez) (he : fin = fz n rez) (hdg : decode cc pc = .ok (.ireturn, 1)) : W p l e R s m args below meth c H locs (n - n0) (sz n - sz n0) (vx_MQ below (sQTi D G ad0 r0 n0 x s.heap.size fin) XC args s (mcT n0 fin) (msT n0 fin) (sA ad0 r0 n0 s.heap.size)) (F0 m pc ls [.int y]) := by
  cases hf
  subst he
  exact vx_ret (W.zret (v := y) E.1 E.2.1 hr hn (fun t ht hW => ⟨⟨y, ad, rfl, ⟨rfl, hgo⟩, sB_at hB ht, hB.2.1⟩, hB.2.2.F ht⟩) hB.2.2.2.2 hdg hlocks)
theorem s_dretT (E : CallFix p m c cc nL s args wsL_law own) (hr : meth.sig.returnType = some .double) (hlocks : meth.locks = false) (hB : sB D G (sA ad0 r0 n0 s.heap.size) s.heap ad r v n x H locs) (hgo : sGo r0 n0 ad0 r n ad) {y : UInt64} {fin rez : Sum UInt64 Nat × sR × sV × Nat} {XC : String → State → State → Prop} (hf : some (Sum.inl y, r, v, 0) = some rez) (he : fin = fz n rez) (hdg : decode cc pc = .ok (.dreturn, 1)) : W p l e R s m args below meth c H locs (n - n0) (sz n - sz n0) (vx_MQ below (sQTd D G ad0 r0 n0 x s.heap.size fin) XC args s (mcT n0 fin) (msT n0 fin) (sA ad0 r0 n0 s.heap.size)) (F0 m pc ls [.double y]) := by
  cases hf
  subst he
  exact vx_ret (W.dret (v := y) E.1 E.2.1 hr (fun t ht hW => ⟨⟨y, ad, rfl, ⟨rfl, hgo⟩, sB_at hB ht, hB.2.1⟩, hB.2.2.F ht⟩) hB.2.2.2.2 hdg hlocks)
theorem s_fretT (E : CallFix p m c cc nL s args wsL_law own) (hr : meth.sig.returnType = some .float) (hlocks : meth.locks = false) (hB : sB D G (sA ad0 r0 n0 s.heap.size) s.heap ad r v n x H locs) (hgo : sGo r0 n0 ad0 r n ad) {y : UInt32} {fin rez : Sum UInt32 Nat × sR × sV × Nat} {XC : String → State → State → Prop} (hf : some (Sum.inl y, r, v, 0) = some rez) (he : fin = fz n rez) (hdg : decode cc pc = .ok (.freturn, 1)) : W p l e R s m args below meth c H locs (n - n0) (sz n - sz n0) (vx_MQ below (sQTf D G ad0 r0 n0 x s.heap.size fin) XC args s (mcT n0 fin) (msT n0 fin) (sA ad0 r0 n0 s.heap.size)) (F0 m pc ls [.float y]) := by
  cases hf
  subst he
  exact vx_ret (W.fret (v := y) E.1 E.2.1 hr (fun t ht hW => ⟨⟨y, ad, rfl, ⟨rfl, hgo⟩, sB_at hB ht, hB.2.1⟩, hB.2.2.F ht⟩) hB.2.2.2.2 hdg hlocks)
theorem s_vretT (E : CallFix p m c cc nL s args wsL_law own) (hr : meth.sig.returnType = none) (hlocks : meth.locks = false) (hB : sB D G (sA ad0 r0 n0 s.heap.size) s.heap ad r v n x H locs) (hgo : sGo r0 n0 ad0 r n ad) {fin rez : Sum Unit Nat × sR × sV × Nat} {XC : String → State → State → Prop} (hf : some (Sum.inl (), r, v, 0) = some rez) (he : fin = fz n rez) (hdg : decode cc pc = .ok (.return_, 1)) : W p l e R s m args below meth c H locs (n - n0) (sz n - sz n0) (vx_MQ below (sQTv D G ad0 r0 n0 x s.heap.size fin) XC args s (mcT n0 fin) (msT n0 fin) (sA ad0 r0 n0 s.heap.size)) (F0 m pc ls []) := by
  cases hf
  subst he
  exact vx_ret (W.vret E.1 E.2.1 hr (fun t ht hW => ⟨⟨ad, rfl, ⟨rfl, hgo⟩, sB_at hB ht, hB.2.1⟩, hB.2.2.F ht⟩) hB.2.2.2.2 hdg hlocks)
theorem s_aretT {C : String} (E : CallFix p m c cc nL s args wsL_law own) (hr : meth.sig.returnType = some (.object C)) (hlocks : meth.locks = false) (hB : sB D G (sA ad0 r0 n0 s.heap.size) s.heap ad r v n x H locs) (hgo : sGo r0 n0 ad0 r n ad) {y : Nat} {fin rez : Sum Nat Nat × sR × sV × Nat} {XC : String → State → State → Prop} (hf : some (Sum.inl y, r, v, 0) = some rez) (he : fin = fz n rez) (hdg : decode cc pc = .ok (.areturn, 1)) : W p l e R s m args below meth c H locs (n - n0) (sz n - sz n0) (vx_MQ below (sQTr D G ad0 r0 n0 x s.heap.size fin) XC args s (mcT n0 fin) (msT n0 fin) (sA ad0 r0 n0 s.heap.size)) (F0 m pc ls [.ref (ad y)]) := by
  cases hf
  subst he
  exact vx_ret (W.aret (v := .ref (ad y)) E.1 E.2.1 hr (Or.inl ⟨C, rfl⟩) (Or.inr ⟨_, rfl⟩) (fun t ht hW => ⟨⟨ad, ad y, rfl, hgo, ⟨y, rfl, rfl⟩, sB_at hB ht, hB.2.1⟩, hB.2.2.F ht⟩) hB.2.2.2.2 hdg hlocks)
/-! calls of methods that throw -/
theorem sZ_to (hZ : sZ A s) (hB : sB D G A s.heap ad r v n x H locs) (hA0 : ∀ q, s.heap.size ≤ q → A q) {U : State} (hU : U.heap = H) (hW : s.WarmedH U.vm) : sZ (sA ad r n H.size) U := by
  have h1 : ∀ a : Nat, a < s.heap.size → ¬ A a → H[a]? = s.heap[a]? := hB.2.2.2.1
  refine ⟨?_, ?_⟩
  · rw [hU]; exact ((hZ.1.kept h1).narrow (sA_in hB hA0)).moved hW.alike
  · rw [hU]; exact ((hZ.2.kept h1).narrow (sA_in hB hA0)).moved hW.alike
theorem rV_T (E : CallFix p m c cc nL s args wsL_law own) (hU : sU D G s) (hZ : sZ A s) (hA0 : ∀ q, s.heap.size ≤ q → A q) (hB : sB D G A s.heap ad r v n x H locs) {q ci N mc ms : Nat} {C : String} {T : u_T} {ty : Nat → FieldType} (hcl : sCls ci C T N ty) (hq : lv r n q) (hk : sks q = (ci, N)) {Qc : Array Value → State → Outcome → State → Prop} {XC : String → State → State → Prop} (M : vx_Met l y ws rm (sPT D G ad r v n x H.size (.ref (ad q) :: As)) Qc XC mc ms (sA ad r n H.size)) (cw : CallW R s args own C index y bytes maxL ret ws rm mc ms k) (hn : As.length = k) (hl : ls.size = nL) (hst : (rest.map fun v => v.category).sum ≤ 8) (hdg : decode cc pc = .ok (.invokevirtual index, 3)) (hc : cells + mc ≤ R.cells ∧ slots + ms ≤ R.slots) (hs : st0 = As.reverse ++ .ref (ad q) :: rest) :
    vx_Run p l e R s m args below meth c H locs cells slots mc ms (F0 m pc ls st0) rest (Qc (Value.ref (ad q) :: As).toArray) XC (sA ad r n H.size) :=
  vx_runV E M cw ⟨fb_T, s_recv hU hB.1 hcl hq hk, fun U hU1 hW => ⟨rfl, by rw [hU1], hU.warm hW, by rw [hU1]; exact hB.1, ⟨hB.2.1.1, fun _ _ _ => trivial⟩, sZ_to hZ hB hA0 hU1 hW⟩⟩ rfl hn hl hs (lv_room hst) hdg hc
theorem rS_T (E : CallFix p m c cc nL s args wsL_law own) (hU : sU D G s) (hZ : sZ A s) (hA0 : ∀ q, s.heap.size ≤ q → A q) (hB : sB D G A s.heap ad r v n x H locs) {mc ms : Nat} {Qc : Array Value → State → Outcome → State → Prop} {XC : String → State → State → Prop} (M : vx_Met l y ws rm (sPT D G ad r v n x H.size As) Qc XC mc ms (sA ad r n H.size)) (cw : CallB R s args own index y bytes maxL ret ws rm mc ms k ∧ (Cond.static y).before args s = true) (hn : As.length = k) (hl : ls.size = nL) (hst : (rest.map fun v => v.category).sum ≤ 8) (hdg : decode cc pc = .ok (.invokestatic index, 3)) (hc : cells + mc ≤ R.cells ∧ slots + ms ≤ R.slots) (hs : st0 = As.reverse ++ rest) :
    vx_Run p l e R s m args below meth c H locs cells slots mc ms (F0 m pc ls st0) rest (Qc As.toArray) XC (sA ad r n H.size) :=
  vx_runS E M cw ⟨fb_T, fun U hU1 hW => ⟨rfl, by rw [hU1], hU.warm hW, by rw [hU1]; exact hB.1, ⟨hB.2.1.1, fun _ _ _ => trivial⟩, sZ_to hZ hB hA0 hU1 hW⟩⟩ rfl hn hl hs (lv_room hst) hdg hc
/-- what follows a call that may throw: it goes on, or the exception goes out -/
def acT {γ β : Type} (q : Sum γ Nat × sR × sV × Nat) (n : Nat) (f : γ → sR → sV → Nat → Option (Sum β Nat × sR × sV × Nat)) : Option (Sum β Nat × sR × sV × Nat) := match q.1 with
  | .inl a => ac (a, q.2.1, q.2.2.1, q.2.2.2) n f
  | .inr k => some (.inr k, q.2.1, q.2.2.1, q.2.2.2)
theorem acT_out {γ : Type} {q : Sum γ Nat × sR × sV × Nat} {f : γ → sR → sV → Nat → Option (Sum α Nat × sR × sV × Nat)} {ke : Nat} (h1 : q.1 = .inr ke) (hf : acT q n f = some rez) (he : fin = fz n rez) : fin = (.inr ke, q.2.1, q.2.2.1, n + q.2.2.2) := by
  unfold acT at hf
  rw [h1] at hf
  cases hf
  exact he
theorem acT_in {γ : Type} {q : Sum γ Nat × sR × sV × Nat} {f : γ → sR → sV → Nat → Option (Sum α Nat × sR × sV × Nat)} {a : γ} (h1 : q.1 = .inl a) (hf : acT q n f = some rez) : ∃ z1, f a q.2.1 q.2.2.1 (n + q.2.2.2) = some z1 ∧ fz n rez = fz (n + q.2.2.2) z1 := by
  unfold acT at hf
  rw [h1] at hf
  exact ac_e hf
theorem acT_le {γ : Type} {q : Sum γ Nat × sR × sV × Nat} {f : γ → sR → sV → Nat → Option (Sum α Nat × sR × sV × Nat)} (hf : acT q n f = some rez) (he : fin = fz n rez) : (fz n q).2.2.2 ≤ fin.2.2.2 ∧ (fz n q).2.2.2 - n + exc q.1 ≤ fin.2.2.2 - n + exc fin.1 ∧ exc q.1 ≤ exc fin.1 := by
  have e1 : (fz n q).2.2.2 = n + q.2.2.2 := rfl
  cases h1 : q.1 with
  | inl a =>
    obtain ⟨z1, h2, h3⟩ := acT_in h1 hf
    have h4 : n + q.2.2.2 ≤ fin.2.2.2 := by rw [he, h3]; exact Nat.le_add_right _ _
    refine ⟨by omega, ?_, Nat.zero_le _⟩
    show (fz n q).2.2.2 - n + 0 ≤ _
    omega
  | inr k =>
    have h2 := acT_out h1 hf he
    subst h2
    exact ⟨Nat.le_refl _, Nat.le_refl _, Nat.le_refl _⟩
/-- the room of such a call -/
theorem acT_room {γ : Type} {q : Sum γ Nat × sR × sV × Nat} {f : γ → sR → sV → Nat → Option (Sum α Nat × sR × sV × Nat)} (hf : acT q n f = some rez) (he : fin = fz n rez) (h0 : n0 ≤ n) : (n - n0) + mcT n (fz n q) ≤ mcT n0 fin ∧ (sz n - sz n0) + msT n (fz n q) ≤ msT n0 fin := by
  obtain ⟨h1, h2, h3⟩ := acT_le hf he
  have h4 : n ≤ (fz n q).2.2.2 := Nat.le_add_right _ _
  have h5 := sz_le h4
  have h6 := sz_le h1
  have h7 := sz_le h0
  have h8 : (fz n q).1 = q.1 := rfl
  unfold mcT msT
  rw [h8]
  constructor <;> omega
/-- an exception of a callee goes out -/
theorem s_out {γ : Type} {E0 : String} {ce : Cell} {q9 : Addr} {Qc : Array Value → State → Outcome → State → Prop} {q : Sum γ Nat × sR × sV × Nat} {f : γ → sR → sV → Nat → Option (Sum α Nat × sR × sV × Nat)} {ad1 : Nat → Nat} {t : State} {H1 : Heap} {locs1 : List Loc} (htab : ∀ x ∈ c.exceptionTable.toList, False) (hlocks : meth.locks = false) (hB : sB D G (sA ad0 r0 n0 s.heap.size) s.heap ad r v n x H locs) (hgo : sGo r0 n0 ad0 r n ad) (hf : acT q n f = some rez) (he : fin = fz n rez) (hq : ∃ k, (fz n q).1 = .inr k ∧ E0 = exn k) (hg1 : sGo r n ad (fz n q).2.1 (fz n q).2.2.2 ad1) (hE : sE D G ad r n x H.size (fz n q).2.1 (fz n q).2.2.1 (fz n q).2.2.2 ad1 t) (ht : t.heap = H1) (hS : va_S (sA ad0 r0 n0 s.heap.size) s.heap H1 locs1) (hce : H1[q9]? = some ce) (hcv : ce.vm = .none) (hcl : s.vm.findClass E0 = some ce.cls) :
    vx_W p l e R s m args below meth c H1 locs1 ((n - n0) + mcT n (fz n q)) ((sz n - sz n0) + msT n (fz n q)) (vx_MQ below Qc (sXC D G ad0 r0 n0 x s.heap.size fin) args s (mcT n0 fin) (msT n0 fin) (sA ad0 r0 n0 s.heap.size)) (F0 m pc ls rest) q9 := by
  obtain ⟨ke, hk, rfl⟩ := hq
  have hk : q.1 = .inr ke := hk
  have h1 := acT_out hk hf he
  obtain ⟨h3, h4⟩ := acT_room hf he hgo.1
  refine vx_out (fun z hz => (htab z hz).elim) hlocks hce hcv hcl (fun t1 ht1 ha => ?_) hS.2.2 h3 h4
  rw [h1]
  refine ⟨ad1, hgo.trans hg1, ⟨⟨ke, rfl, rfl⟩, ?_, ?_⟩, hS.F ht1⟩
  · rw [ht1, ← ht]; exact hE.1
  · exact ⟨hE.2.1, fun k z hz => sA_in hB (fun _ h => Or.inr h) _ (hE.2.2 k z hz)⟩
/-- behind a call that answers a cell, or throws -/
theorem sx_callr {S SX : Type} {A0 A1 AX : Nat → Prop} {mc ms : Nat} {a : Array Value} {free : Addr → Prop} {post : S → Prop} {px : SX → Prop} {B : S → Nat → State → Prop} {BX : String → SX → State → Prop} (hr : vx_Run p l e R s m args below meth c H locs cells slots mc ms (F0 m pc ls st0) rest (va_Qr post B A1 a) (vx_X px BX AX) free) (hS : va_S A0 H0 H locs) (hA : ∀ q, q < H.size → A1 q → A0 q) (hf : ∀ q, free q → A0 q) (hAX : ∀ q, q < H.size → AX q → A0 q)
    (kx : ∀ (E : String) (ce : Cell) (q9 : Addr) (u : SX) (t : State) (H1 : Heap) (locs1 : List Loc), t.heap = H1 → s.vm.Alike t.vm → px u → BX E u t → H.size ≤ H1.size → (∀ q : Nat, q < H.size → ¬ AX q → H1[q]? = H[q]?) → va_S A0 H0 H1 locs1 → H1[q9]? = some ce → ce.vm = .none → s.vm.findClass E = some ce.cls → vx_W p l e R s m args below meth c H1 locs1 (cells + mc) (slots + ms) Q (F0 m pc ls rest) q9)
    (kk : ∀ (u : S) (ra : Nat) (t : State) (H1 : Heap) (locs1 : List Loc), t.heap = H1 → s.vm.Alike t.vm → post u → B u ra t → H.size ≤ H1.size → (∀ q : Nat, q < H.size → ¬ A1 q → H1[q]? = H[q]?) → va_S A0 H0 H1 locs1 → W p l e R s m args below meth c H1 locs1 (cells + mc) (slots + ms) Q (F0 m (pc + 3) ls (.ref ra :: rest))) : W p l e R s m args below meth c H locs cells slots Q (F0 m pc ls st0) := by
  intro T hT X
  rcases hr T hT X with ⟨v, st₀, t, T', L, h0, X', hL, e1, e2, ⟨⟨u, ra, hv, hp, hb⟩, hF⟩, st⟩ | ⟨q, st₀, t, T', L, E, ce, h0, X', hL, e1, e2, ⟨u, hp, hb, hF⟩, hce, hcv, hcl, st⟩
  · cases hv
    obtain ⟨k1, k2, k3⟩ := vx_keep h0 e1 hS hA hf hL hF
    obtain ⟨t2, a1, b1⟩ := kk u ra t T'.heap (locs ++ L) e1.symm (by rw [← e2]; exact X'.warmed.alike) hp hb k1 k2 k3 T' rfl X'
    exact ⟨t2, st t2 a1, b1⟩
  · obtain ⟨k1, k2, k3⟩ := vx_keep h0 e1 hS hAX hf hL hF
    obtain ⟨t2, a1, b1⟩ := kx E ce q u t T'.heap (locs ++ L) e1.symm (by rw [← e2]; exact X'.warmed.alike) hp hb k1 k2 k3 (by rw [e1]; exact hce) hcv hcl T' rfl X'
    exact ⟨t2, st.trans a1, b1⟩
theorem sc_Tv {Qc : Array Value → State → Outcome → State → Prop} (htab : ∀ x ∈ c.exceptionTable.toList, False) (hlocks : meth.locks = false) (hB : sB D G (sA ad0 r0 n0 s.heap.size) s.heap ad r v n x H locs) (hgo : sGo r0 n0 ad0 r n ad) (hRc : mcT n0 fin ≤ R.cells ∧ msT n0 fin ≤ R.slots) {o : Option (Sum Unit Nat × sR × sV × Nat)} {f : Unit → sR → sV → Nat → Option (Sum α Nat × sR × sV × Nat)} {a : Array Value} (hf : o.bind (fun q => acT q n f) = some rez) (he : fin = fz n rez)
    (hr : ∀ q0, o = some q0 → (n - n0) + mcT n (fz n q0) ≤ R.cells ∧ (sz n - sz n0) + msT n (fz n q0) ≤ R.slots → vx_Run p l e R s m args below meth c H locs (n - n0) (sz n - sz n0) (mcT n (fz n q0)) (msT n (fz n q0)) (F0 m pc ls st0) rest (sQTv D G ad r n x H.size (fz n q0) a) (sXC D G ad r n x H.size (fz n q0)) (sA ad r n H.size))
    (kk : ∀ (r1 : sR) (v1 : sV) (n1 : Nat) (rez : Sum α Nat × sR × sV × Nat), f () r1 v1 n1 = some rez → fin = fz n1 rez → ∀ ad1 : Nat → Nat, sGo r n ad r1 n1 ad1 → n0 ≤ n1 → ∀ (H : Heap) (locs : List Loc), sB D G (sA ad0 r0 n0 s.heap.size) s.heap ad1 r1 v1 n1 x H locs → W p l e R s m args below meth c H locs (n1 - n0) (sz n1 - sz n0) (vx_MQ below Qc (sXC D G ad0 r0 n0 x s.heap.size fin) args s (mcT n0 fin) (msT n0 fin) (sA ad0 r0 n0 s.heap.size)) (F0 m (pc + 3) ls rest)) : W p l e R s m args below meth c H locs (n - n0) (sz n - sz n0) (vx_MQ below Qc (sXC D G ad0 r0 n0 x s.heap.size fin) args s (mcT n0 fin) (msT n0 fin) (sA ad0 r0 n0 s.heap.size)) (F0 m pc ls st0) := by
  obtain ⟨q0, h1, hf⟩ := bi_e hf
  have hrm := acT_room hf he hgo.1
  have hA0 : ∀ q, s.heap.size ≤ q → sA ad0 r0 n0 s.heap.size q := fun q h => Or.inr h
  refine vx_callv (hr q0 h1 ⟨Nat.le_trans hrm.1 hRc.1, Nat.le_trans hrm.2 hRc.2⟩) hB.2.2 (fun q _ h => sA_in hB hA0 q h) (sA_in hB hA0) (fun q _ h => sA_in hB hA0 q h) (fun E0 ce q9 ad1 t H1 locs1 ht ha hp hb hz hk hS hce hcv hcl => ?_) (fun ad1 t H1 locs1 ht hvm hw hb hz hk hS => ?_)
  · exact s_out htab hlocks hB hgo hf he hb.1 hp hb.2 ht hS hce hcv hcl
  · obtain ⟨hw, hg1⟩ := hw
    have hw : q0.1 = .inl () := hw
    obtain ⟨z1, hf, h2⟩ := acT_in hw hf
    have he1 := he.trans h2
    have h3 : n ≤ n + q0.2.2.2 := Nat.le_add_right _ _
    have h5 := sz_le h3
    have h0 := hgo.1
    have h7 := sz_le h0
    have e2 : (n - n0) + mcT n (fz n q0) = n + q0.2.2.2 - n0 := by
      show (n - n0) + (n + q0.2.2.2 - n + exc q0.1) = _
      rw [hw]
      show (n - n0) + (n + q0.2.2.2 - n + 0) = _
      omega
    have e3 : (sz n - sz n0) + msT n (fz n q0) = sz (n + q0.2.2.2) - sz n0 := by
      show (sz n - sz n0) + (sz (n + q0.2.2.2) - sz n + 6 * exc q0.1) = _
      rw [hw]
      show (sz n - sz n0) + (sz (n + q0.2.2.2) - sz n + 6 * 0) = _
      omega
    rw [e2, e3]
    exact kk _ _ _ _ hf he1 ad1 hg1 (Nat.le_trans h0 h3) H1 locs1 ⟨by rw [← ht]; exact hb.1, ⟨hb.2.1, fun k q h => sA_in hB hA0 _ (hb.2.2 k q h)⟩, hS⟩
theorem sc_Tr {Qc : Array Value → State → Outcome → State → Prop} (htab : ∀ x ∈ c.exceptionTable.toList, False) (hlocks : meth.locks = false) (hB : sB D G (sA ad0 r0 n0 s.heap.size) s.heap ad r v n x H locs) (hgo : sGo r0 n0 ad0 r n ad) (hRc : mcT n0 fin ≤ R.cells ∧ msT n0 fin ≤ R.slots) {o : Option (Sum Nat Nat × sR × sV × Nat)} {f : Nat → sR → sV → Nat → Option (Sum α Nat × sR × sV × Nat)} {a : Array Value} (hf : o.bind (fun q => acT q n f) = some rez) (he : fin = fz n rez)
    (hr : ∀ q0, o = some q0 → (n - n0) + mcT n (fz n q0) ≤ R.cells ∧ (sz n - sz n0) + msT n (fz n q0) ≤ R.slots → vx_Run p l e R s m args below meth c H locs (n - n0) (sz n - sz n0) (mcT n (fz n q0)) (msT n (fz n q0)) (F0 m pc ls st0) rest (sQTr D G ad r n x H.size (fz n q0) a) (sXC D G ad r n x H.size (fz n q0)) (sA ad r n H.size))
    (kk : ∀ (y : Nat) (r1 : sR) (v1 : sV) (n1 : Nat) (rez : Sum α Nat × sR × sV × Nat), f y r1 v1 n1 = some rez → fin = fz n1 rez → ∀ ad1 : Nat → Nat, sGo r n ad r1 n1 ad1 → n0 ≤ n1 → ∀ (H : Heap) (locs : List Loc), sB D G (sA ad0 r0 n0 s.heap.size) s.heap ad1 r1 v1 n1 x H locs → W p l e R s m args below meth c H locs (n1 - n0) (sz n1 - sz n0) (vx_MQ below Qc (sXC D G ad0 r0 n0 x s.heap.size fin) args s (mcT n0 fin) (msT n0 fin) (sA ad0 r0 n0 s.heap.size)) (F0 m (pc + 3) ls (.ref (ad1 y) :: rest))) : W p l e R s m args below meth c H locs (n - n0) (sz n - sz n0) (vx_MQ below Qc (sXC D G ad0 r0 n0 x s.heap.size fin) args s (mcT n0 fin) (msT n0 fin) (sA ad0 r0 n0 s.heap.size)) (F0 m pc ls st0) := by
  obtain ⟨q0, h1, hf⟩ := bi_e hf
  have hrm := acT_room hf he hgo.1
  have hA0 : ∀ q, s.heap.size ≤ q → sA ad0 r0 n0 s.heap.size q := fun q h => Or.inr h
  refine sx_callr (hr q0 h1 ⟨Nat.le_trans hrm.1 hRc.1, Nat.le_trans hrm.2 hRc.2⟩) hB.2.2 (fun q _ h => sA_in hB hA0 q h) (sA_in hB hA0) (fun q _ h => sA_in hB hA0 q h) (fun E0 ce q9 ad1 t H1 locs1 ht ha hp hb hz hk hS hce hcv hcl => ?_) (fun ad1 ra t H1 locs1 ht hvm hg1 hb hz hk hS => ?_)
  · exact s_out htab hlocks hB hgo hf he hb.1 hp hb.2 ht hS hce hcv hcl
  · obtain ⟨⟨y, hw, hra⟩, hb⟩ := hb
    subst hra
    have hw : q0.1 = .inl y := hw
    obtain ⟨z1, hf, h2⟩ := acT_in hw hf
    have he1 := he.trans h2
    have h3 : n ≤ n + q0.2.2.2 := Nat.le_add_right _ _
    have h5 := sz_le h3
    have h0 := hgo.1
    have h7 := sz_le h0
    have e2 : (n - n0) + mcT n (fz n q0) = n + q0.2.2.2 - n0 := by
      show (n - n0) + (n + q0.2.2.2 - n + exc q0.1) = _
      rw [hw]
      show (n - n0) + (n + q0.2.2.2 - n + 0) = _
      omega
    have e3 : (sz n - sz n0) + msT n (fz n q0) = sz (n + q0.2.2.2) - sz n0 := by
      show (sz n - sz n0) + (sz (n + q0.2.2.2) - sz n + 6 * exc q0.1) = _
      rw [hw]
      show (sz n - sz n0) + (sz (n + q0.2.2.2) - sz n + 6 * 0) = _
      omega
    rw [e2, e3]
    exact kk _ _ _ _ _ hf he1 ad1 hg1 (Nat.le_trans h0 h3) H1 locs1 ⟨by rw [← ht]; exact hb.1, ⟨hb.2.1, fun k q h => sA_in hB hA0 _ (hb.2.2 k q h)⟩, hS⟩
end STH
