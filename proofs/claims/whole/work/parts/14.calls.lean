/-! CONTRACTS over the world, in four forms, and the rows that call by them -/
def sMS (l : Launch) (y : MethodName) (ws : List Cond) (rm : Room) (av : List Value) (o : Option Int32) : Prop :=
  ∀ r0, o = some r0 → Met l y ws rm (va_Pc av (fun _ => True)) (vp_Si (fun q => q = r0)) 0 0 (fun _ => False)
def sPR (D : va_G) (G : Nat → ClassId) (ad : Nat → Nat) (r : sR) (v : sV) (n : Nat) (x : Int64 × UInt64) (av : List Value) : Array Value → State → Prop := va_Pc av (fun U => sU D G U ∧ va_P D vwCl (sWl G ad r v n x) U.heap)
def sMR (l : Launch) (y : MethodName) (ws : List Cond) (rm : Room) (D : va_G) (G : Nat → ClassId) (ad : Nat → Nat) (r : sR) (v : sV) (n : Nat) (x : Int64 × UInt64) (av : List Value) (o : Option Int32) : Prop :=
  ∀ r0, o = some r0 → Met l y ws rm (sPR D G ad r v n x av) (vp_Si (fun q => q = r0)) 0 0 (fun _ => False)
def sPW (D : va_G) (G : Nat → ClassId) (ad : Nat → Nat) (r : sR) (v : sV) (n : Nat) (x : Int64 × UInt64) (sz : Nat) (av : List Value) : Array Value → State → Prop := va_Pc av (fun U => U.heap.size = sz ∧ sU D G U ∧ va_P D vwCl (sWl G ad r v n x) U.heap ∧ va_D (fun _ => True) (sWl G ad r v n x))
def sQI (D : va_G) (G : Nat → ClassId) (ad : Nat → Nat) (r : sR) (n : Nat) (x : Int64 × UInt64) (sz : Nat) (q0 : Int32 × sV) : Array Value → State → Outcome → State → Prop := va_Qi (fun (q : Int32) (_ : Unit) => q = q0.1) (fun _ t => va_P D vwCl (sWl G ad r q0.2 n x) t.heap) (sA ad n sz)
def sQV (D : va_G) (G : Nat → ClassId) (ad : Nat → Nat) (r : sR) (n : Nat) (x : Int64 × UInt64) (sz : Nat) (q0 : sV) : Array Value → State → Outcome → State → Prop := va_Qv (fun (_ : Unit) => True) (fun _ t => va_P D vwCl (sWl G ad r q0 n x) t.heap) (sA ad n sz)
def sMI (l : Launch) (y : MethodName) (ws : List Cond) (rm : Room) (D : va_G) (G : Nat → ClassId) (ad : Nat → Nat) (r : sR) (v : sV) (n : Nat) (x : Int64 × UInt64) (av : List Value) (o : Option (Int32 × sV)) : Prop :=
  ∀ (sz : Nat) (q0 : Int32 × sV), o = some q0 → Met l y ws rm (sPW D G ad r v n x sz av) (sQI D G ad r n x sz q0) 0 0 (sA ad n sz)
def sMV (l : Launch) (y : MethodName) (ws : List Cond) (rm : Room) (D : va_G) (G : Nat → ClassId) (ad : Nat → Nat) (r : sR) (v : sV) (n : Nat) (x : Int64 × UInt64) (av : List Value) (o : Option sV) : Prop :=
  ∀ (sz : Nat) (q0 : sV), o = some q0 → Met l y ws rm (sPW D G ad r v n x sz av) (sQV D G ad r n x sz q0) 0 0 (sA ad n sz)
def sQD (D : va_G) (G : Nat → ClassId) (ad : Nat → Nat) (r : sR) (n : Nat) (x : Int64 × UInt64) (sz : Nat) (q0 : UInt64 × sV) : Array Value → State → Outcome → State → Prop := va_Qd (fun (q : UInt64) (_ : Unit) => q = q0.1) (fun _ t => va_P D vwCl (sWl G ad r q0.2 n x) t.heap) (sA ad n sz)
def sQF (D : va_G) (G : Nat → ClassId) (ad : Nat → Nat) (r : sR) (n : Nat) (x : Int64 × UInt64) (sz : Nat) (q0 : UInt32 × sV) : Array Value → State → Outcome → State → Prop := va_Qf (fun (q : UInt32) (_ : Unit) => q = q0.1) (fun _ t => va_P D vwCl (sWl G ad r q0.2 n x) t.heap) (sA ad n sz)
def sMD (l : Launch) (y : MethodName) (ws : List Cond) (rm : Room) (D : va_G) (G : Nat → ClassId) (ad : Nat → Nat) (r : sR) (v : sV) (n : Nat) (x : Int64 × UInt64) (av : List Value) (o : Option (UInt64 × sV)) : Prop :=
  ∀ (sz : Nat) (q0 : UInt64 × sV), o = some q0 → Met l y ws rm (sPW D G ad r v n x sz av) (sQD D G ad r n x sz q0) 0 0 (sA ad n sz)
def sMF (l : Launch) (y : MethodName) (ws : List Cond) (rm : Room) (D : va_G) (G : Nat → ClassId) (ad : Nat → Nat) (r : sR) (v : sV) (n : Nat) (x : Int64 × UInt64) (av : List Value) (o : Option (UInt32 × sV)) : Prop :=
  ∀ (sz : Nat) (q0 : UInt32 × sV), o = some q0 → Met l y ws rm (sPW D G ad r v n x sz av) (sQF D G ad r n x sz q0) 0 0 (sA ad n sz)
theorem fb_S {av : List Value} : FrameBlind (va_Pc av (fun _ => True)) := fun _ _ _ _ q => q
theorem fb_R {D : va_G} {G : Nat → ClassId} {ad : Nat → Nat} {r : sR} {v : sV} {n : Nat} {x : Int64 × UInt64} {av : List Value} : FrameBlind (sPR D G ad r v n x av) := fun _ _ _ _ q => ⟨q.1, q.2.1.calling, q.2.2⟩
theorem fb_W {D : va_G} {G : Nat → ClassId} {ad : Nat → Nat} {r : sR} {v : sV} {n : Nat} {x : Int64 × UInt64} {sz : Nat} {av : List Value} : FrameBlind (sPW D G ad r v n x sz av) := fun _ _ _ _ q => ⟨q.1, q.2.1, q.2.2.1.calling, q.2.2.2.1, q.2.2.2.2⟩
/-- all words that any method here needs stand in wsL_law, and they are good -/
theorem goodG {c0 : Cond} (h : c0 ∈ wsL_law) (hg : ∀ w ∈ wsL_law, goodWord w = true) : GoodIn wsL_law (c0 :: wsL_law) := fun w hw => by
  have hm : w ∈ wsL_law := by
    rcases List.mem_cons.mp hw with rfl | h1
    · exact h
    · exact h1
  exact ⟨hm, good_of_word (hg w hm)⟩
def sOk (y : MethodName) (bytes : ByteArray) (maxL : Nat) (ret : Option FieldType) (n : Nat) : Prop := Cond.code y bytes maxL ret ∈ wsL_law ∧ Cond.initialized y.cls ∈ wsL_law ∧ (y.cls ≠ "java/lang/invoke/MethodHandle" ∧ y.cls ≠ "java/lang/invoke/VarHandle" ∧ (parseMethodDescriptor y.desc).map (fun d => d.parameters.length) = some n)
def sOkS (y : MethodName) (bytes : ByteArray) (maxL : Nat) (ret : Option FieldType) (n : Nat) : Prop := sOk y bytes maxL ret n ∧ Cond.static y ∈ wsL_law
def sOkV (y : MethodName) (bytes : ByteArray) (maxL : Nat) (ret : Option FieldType) (n : Nat) : Prop := sOk y bytes maxL ret n ∧ Cond.instanceMethod y ∈ wsL_law ∧ Cond.selects y.cls y y ∈ wsL_law
theorem cwGS {R rm : Room} {s : State} {args : Array Value} {own : String} {index maxL mc ms : Nat} {y : MethodName} {bytes : ByteArray} {ret : Option FieldType} (n : Nat) (ok : sOkS y bytes maxL ret n) (hl : Cond.methodLink own index y ∈ wsL_law) (hts : ∀ w ∈ wsL_law, w.before args s = true) (hrc : rm.cells = mc) (hrs : rm.slots = ms) (hR : rm.frames + 1 ≤ R.frames ∧ 8 + (maxL + 11) + rm.locals ≤ R.locals) :
    CallB R s args own index y bytes maxL ret (Cond.code y bytes maxL ret :: wsL_law) rm mc ms n ∧ (Cond.static y).before args s = true :=
  ⟨callB_of n hts (goodG ok.1.1 goodL) rfl hrc hrs (hts _ ok.1.2.1) (hts _ hl) ok.1.2.2 hR, hts _ ok.2⟩
theorem cwGV {R rm : Room} {s : State} {args : Array Value} {own : String} {index maxL mc ms : Nat} {y : MethodName} {bytes : ByteArray} {ret : Option FieldType} (n : Nat) (ok : sOkV y bytes maxL ret n) (hl : Cond.methodLink own index y ∈ wsL_law) (hts : ∀ w ∈ wsL_law, w.before args s = true) (hrc : rm.cells = mc) (hrs : rm.slots = ms) (hR : rm.frames + 1 ≤ R.frames ∧ 8 + (maxL + 11) + rm.locals ≤ R.locals) :
    CallW R s args own y.cls index y bytes maxL ret (Cond.code y bytes maxL ret :: wsL_law) rm mc ms n :=
  ⟨callB_of n hts (goodG ok.1.1 goodL) rfl hrc hrs (hts _ ok.1.2.1) (hts _ hl) ok.1.2.2 hR, hts _ ok.2.1, hts _ ok.2.2⟩
theorem cwGN {R rm : Room} {s : State} {args : Array Value} {own host : String} {index maxL mc ms : Nat} {y : MethodName} {bytes : ByteArray} {ret : Option FieldType} (n : Nat) (ok : sOkS y bytes maxL ret n) (hl : va_Nw (.methodLinkNest own index y host) s) (hts : ∀ w ∈ wsL_law, w.before args s = true) (hrc : rm.cells = mc) (hrs : rm.slots = ms) (hR : rm.frames + 1 ≤ R.frames ∧ 8 + (maxL + 11) + rm.locals ≤ R.locals) :
    va_CN R s args own index y host bytes maxL ret (Cond.code y bytes maxL ret :: wsL_law) rm mc ms n ∧ (Cond.static y).before args s = true ∧ True :=
  ⟨va_cnB n hts (goodG ok.1.1 goodL) rfl hrc hrs hl (hts _ ok.1.2.1) ok.1.2.2 hR, hts _ ok.2, trivial⟩
theorem sD_self {ad : Nat → Nat} {G : Nat → ClassId} {r : sR} {v : sV} {n sz : Nat} {x : Int64 × UInt64} {A : Nat → Prop} (h : va_D A (sWl G ad r v n x)) : va_D (sA ad n sz) (sWl G ad r v n x) := by
  refine ⟨h.1, fun k q hk => ?_⟩
  obtain ⟨h1, rfl⟩ := sWl_out hk
  exact Or.inl ⟨k, h1, rfl⟩
theorem sB_at {D : va_G} {G : Nat → ClassId} {A : Nat → Prop} {H0 : Heap} {ad : Nat → Nat} {r : sR} {v : sV} {n : Nat} {x : Int64 × UInt64} {H : Heap} {locs : List Loc} {t : State} (hB : sB D G A H0 ad r v n x H locs) (ht : t.heap = H) : va_P D vwCl (sWl G ad r v n x) t.heap := ht ▸ hB.1
section SCW
variable {p : Program} {l : Launch} {e : Env} {R : Room} {s : State} {m : MethodId} {args : Array Value} {below : List Frame} {meth : Method} {c : Code} {H : Heap} {locs : List Loc} {cells slots : Nat} {Q : State → Prop} {pc : Nat} {ls : Array Slot} {rest st0 As : List Value} {cc : ByteArray} {nL : Nat} {Ts : List Cond} {own : String}
variable {D : va_G} {G : Nat → ClassId} {A : Nat → Prop} {H0 : Heap} {ad : Nat → Nat} {r : sR} {v : sV} {n : Nat} {x : Int64 × UInt64} {ρ : Type} {res : ρ}
variable {y : MethodName} {bytes : ByteArray} {maxL index k : Nat} {ret : Option FieldType} {ws : List Cond} {rm : Room}
theorem s_recv (hU : sU D G s) (hP : va_P D vwCl (sWl G ad r v n x) H) {q ci N : Nat} {C : String} {T : u_T} {ty : Nat → FieldType} (hcl : sCls ci C T N ty) (hq : q < n) (hk : sks q = (ci, N)) : ∃ cell : Cell, H[ad q]? = some cell ∧ cell.vm.isStatics = false ∧ s.vm.findClass C = some cell.cls :=
  va_recv hU.1 hP hcl.2.1 (q0 := q) (ci := ci) (fs := sFs ad (r q) (v q) (sFl ci)) (by rw [sWl_get hq]; simp only [sC, hk, hcl.1, if_true])
/-- what a call needs of the caller: room on the stack and in the frame -/
theorem rS_S (E : CallFix p m c cc nL s args Ts own) {o : Option Int32} (M : sMS l y ws rm As o) (cw : CallB R s args own index y bytes maxL ret ws rm 0 0 k ∧ (Cond.static y).before args s = true) (hn : As.length = k) (hl : ls.size = nL) (hst : (rest.map fun v => v.category).sum ≤ 8) (hdg : decode cc pc = .ok (.invokestatic index, 3)) (hc : cells ≤ R.cells ∧ slots ≤ R.slots) (hs : st0 = As.reverse ++ rest) :
    ∀ r0, o = some r0 → va_Run p l e R s m args below meth c H locs cells slots 0 0 (F0 m pc ls st0) rest (vp_Si (fun q => q = r0) As.toArray) (fun _ => False) :=
  fun r0 h0 => va_runS E (M r0 h0) cw ⟨fb_S, fun U hU hW => ⟨rfl, trivial⟩⟩ rfl hn hl hs (lv_room hst) hdg hc
theorem rSN_S (E : CallFix p m c cc nL s args Ts own) {o : Option Int32} {host : String} (M : sMS l y ws rm As o) (cw : va_CN R s args own index y host bytes maxL ret ws rm 0 0 k ∧ (Cond.static y).before args s = true ∧ True) (hn : As.length = k) (hl : ls.size = nL) (hst : (rest.map fun v => v.category).sum ≤ 8) (hdg : decode cc pc = .ok (.invokestatic index, 3)) (hc : cells ≤ R.cells ∧ slots ≤ R.slots) (hs : st0 = As.reverse ++ rest) :
    ∀ r0, o = some r0 → va_Run p l e R s m args below meth c H locs cells slots 0 0 (F0 m pc ls st0) rest (vp_Si (fun q => q = r0) As.toArray) (fun _ => False) :=
  fun r0 h0 => va_runSN E (M r0 h0) cw ⟨fb_S, fun U hU hW => ⟨rfl, trivial⟩⟩ rfl hn hl hs (lv_room hst) hdg hc
theorem rV_R (E : CallFix p m c cc nL s args Ts own) (hU : sU D G s) (hP : va_P D vwCl (sWl G ad r v n x) H) {q ci N : Nat} {C : String} {T : u_T} {ty : Nat → FieldType} (hcl : sCls ci C T N ty) (hq : q < n) (hk : sks q = (ci, N)) {o : Option Int32} (M : sMR l y ws rm D G ad r v n x (.ref (ad q) :: As) o) (cw : CallW R s args own C index y bytes maxL ret ws rm 0 0 k) (hn : As.length = k) (hl : ls.size = nL) (hst : (rest.map fun v => v.category).sum ≤ 8) (hdg : decode cc pc = .ok (.invokevirtual index, 3)) (hc : cells ≤ R.cells ∧ slots ≤ R.slots) (hs : st0 = As.reverse ++ .ref (ad q) :: rest) :
    ∀ r0, o = some r0 → va_Run p l e R s m args below meth c H locs cells slots 0 0 (F0 m pc ls st0) rest (vp_Si (fun q => q = r0) (Value.ref (ad q) :: As).toArray) (fun _ => False) :=
  fun r0 h0 => va_runV E (M r0 h0) cw ⟨fb_R, s_recv hU hP hcl hq hk, fun U hU1 hW => ⟨rfl, hU.warm hW, by rw [hU1]; exact hP⟩⟩ rfl hn hl hs (lv_room hst) hdg hc
theorem rS_R (E : CallFix p m c cc nL s args Ts own) (hU : sU D G s) (hP : va_P D vwCl (sWl G ad r v n x) H) {o : Option Int32} (M : sMR l y ws rm D G ad r v n x As o) (cw : CallB R s args own index y bytes maxL ret ws rm 0 0 k ∧ (Cond.static y).before args s = true) (hn : As.length = k) (hl : ls.size = nL) (hst : (rest.map fun v => v.category).sum ≤ 8) (hdg : decode cc pc = .ok (.invokestatic index, 3)) (hc : cells ≤ R.cells ∧ slots ≤ R.slots) (hs : st0 = As.reverse ++ rest) :
    ∀ r0, o = some r0 → va_Run p l e R s m args below meth c H locs cells slots 0 0 (F0 m pc ls st0) rest (vp_Si (fun q => q = r0) As.toArray) (fun _ => False) :=
  fun r0 h0 => va_runS E (M r0 h0) cw ⟨fb_R, fun U hU1 hW => ⟨rfl, hU.warm hW, by rw [hU1]; exact hP⟩⟩ rfl hn hl hs (lv_room hst) hdg hc
theorem rV_W (E : CallFix p m c cc nL s args Ts own) (hU : sU D G s) (hB : sB D G A H0 ad r v n x H locs) {q ci N : Nat} {C : String} {T : u_T} {ty : Nat → FieldType} (hcl : sCls ci C T N ty) (hq : q < n) (hk : sks q = (ci, N)) {Qc : Array Value → State → Outcome → State → Prop} (M : Met l y ws rm (sPW D G ad r v n x H.size (.ref (ad q) :: As)) Qc 0 0 (sA ad n H.size)) (cw : CallW R s args own C index y bytes maxL ret ws rm 0 0 k) (hn : As.length = k) (hl : ls.size = nL) (hst : (rest.map fun v => v.category).sum ≤ 8) (hdg : decode cc pc = .ok (.invokevirtual index, 3)) (hc : cells ≤ R.cells ∧ slots ≤ R.slots) (hs : st0 = As.reverse ++ .ref (ad q) :: rest) :
    va_Run p l e R s m args below meth c H locs cells slots 0 0 (F0 m pc ls st0) rest (Qc (Value.ref (ad q) :: As).toArray) (sA ad n H.size) :=
  va_runV E M cw ⟨fb_W, s_recv hU hB.1 hcl hq hk, fun U hU1 hW => ⟨rfl, by rw [hU1], hU.warm hW, by rw [hU1]; exact hB.1, ⟨hB.2.1.1, fun _ _ _ => trivial⟩⟩⟩ rfl hn hl hs (lv_room hst) hdg hc
theorem rS_W (E : CallFix p m c cc nL s args Ts own) (hU : sU D G s) (hB : sB D G A H0 ad r v n x H locs) {Qc : Array Value → State → Outcome → State → Prop} (M : Met l y ws rm (sPW D G ad r v n x H.size As) Qc 0 0 (sA ad n H.size)) (cw : CallB R s args own index y bytes maxL ret ws rm 0 0 k ∧ (Cond.static y).before args s = true) (hn : As.length = k) (hl : ls.size = nL) (hst : (rest.map fun v => v.category).sum ≤ 8) (hdg : decode cc pc = .ok (.invokestatic index, 3)) (hc : cells ≤ R.cells ∧ slots ≤ R.slots) (hs : st0 = As.reverse ++ rest) :
    va_Run p l e R s m args below meth c H locs cells slots 0 0 (F0 m pc ls st0) rest (Qc As.toArray) (sA ad n H.size) :=
  va_runS E M cw ⟨fb_W, fun U hU1 hW => ⟨rfl, by rw [hU1], hU.warm hW, by rw [hU1]; exact hB.1, ⟨hB.2.1.1, fun _ _ _ => trivial⟩⟩⟩ rfl hn hl hs (lv_room hst) hdg hc
theorem sA_in (hB : sB D G A H0 ad r v n x H locs) (hA0 : ∀ q, H0.size ≤ q → A q) : ∀ q, sA ad n H.size q → A q := by
  intro q h
  rcases h with ⟨p, hp, rfl⟩ | h
  · exact hB.2.1.2 p _ (sWl_get hp)
  · exact hA0 q (Nat.le_trans hB.2.2.1 h)
/-- behind a call that changes nothing -/
theorem sc_R {o : Option Int32} {f : Int32 → Option ρ} {a : Array Value} (hf : o.bind f = some res) (hr : ∀ r0, o = some r0 → va_Run p l e R s m args below meth c H locs cells slots 0 0 (F0 m pc ls st0) rest (vp_Si (fun q => q = r0) a) (fun _ => False))
    (kk : ∀ y : Int32, f y = some res → W p l e R s m args below meth c H locs cells slots Q (F0 m (pc + 3) ls (.int y :: rest))) : W p l e R s m args below meth c H locs cells slots Q (F0 m pc ls st0) := by
  obtain ⟨r0, h0, hf⟩ := bi_e hf
  intro T hT X
  obtain ⟨v, st₀, t, T', L, h1, X', hL, e1, -, ⟨q, hv, hp, hh⟩, st⟩ := hr r0 h0 T hT X
  cases hv
  subst hp
  obtain ⟨t2, a1, b1⟩ := kk q hf T' (by rw [e1, hh, h1]) (Stand.forget X' (fun q h => (hL q h).elim))
  exact ⟨t2, st t2 a1, b1⟩
/-- behind a call that writes: a number comes back -/
theorem sc_I (hB : sB D G A H0 ad r v n x H locs) (hA0 : ∀ q, H0.size ≤ q → A q) {o : Option (Int32 × sV)} {f : Int32 × sV → Option ρ} {a : Array Value} (hf : o.bind f = some res) (hr : ∀ q0, o = some q0 → va_Run p l e R s m args below meth c H locs cells slots 0 0 (F0 m pc ls st0) rest (sQI D G ad r n x H.size q0 a) (sA ad n H.size))
    (kk : ∀ (y : Int32) (v : sV), f (y, v) = some res → ∀ (H : Heap) (locs : List Loc), sB D G A H0 ad r v n x H locs → W p l e R s m args below meth c H locs cells slots Q (F0 m (pc + 3) ls (.int y :: rest))) : W p l e R s m args below meth c H locs cells slots Q (F0 m pc ls st0) := by
  obtain ⟨⟨y0, v0⟩, h0, hf⟩ := bi_e hf
  refine va_calli (hr _ h0) hB.2.2 (fun q _ h => sA_in hB hA0 q h) (sA_in hB hA0) (fun r1 u t H1 locs1 ht hvm hw hb hz hk hS => ?_)
  have hw : r1 = y0 := hw
  subst hw
  exact kk _ v0 hf H1 locs1 ⟨by rw [← ht]; exact hb, sD_any hB.2.1, hS⟩
/-- behind a call that writes: nothing comes back -/
theorem sc_V (hB : sB D G A H0 ad r v n x H locs) (hA0 : ∀ q, H0.size ≤ q → A q) {o : Option sV} {f : sV → Option ρ} {a : Array Value} (hf : o.bind f = some res) (hr : ∀ q0, o = some q0 → va_Run p l e R s m args below meth c H locs cells slots 0 0 (F0 m pc ls st0) rest (sQV D G ad r n x H.size q0 a) (sA ad n H.size))
    (kk : ∀ (v : sV), f v = some res → ∀ (H : Heap) (locs : List Loc), sB D G A H0 ad r v n x H locs → W p l e R s m args below meth c H locs cells slots Q (F0 m (pc + 3) ls rest)) : W p l e R s m args below meth c H locs cells slots Q (F0 m pc ls st0) := by
  obtain ⟨v0, h0, hf⟩ := bi_e hf
  refine va_callv (hr _ h0) hB.2.2 (fun q _ h => sA_in hB hA0 q h) (sA_in hB hA0) (fun u t H1 locs1 ht hvm hw hb hz hk hS => ?_)
  exact kk v0 hf H1 locs1 ⟨by rw [← ht]; exact hb, sD_any hB.2.1, hS⟩
/-! ends -/
theorem s_iretR (E : CallFix p m c cc nL s args Ts own) (hr : meth.sig.returnType = some .int) (hlocks : meth.locks = false) {y r0 : Int32} (hf : some y = some r0) (hdg : decode cc pc = .ok (.ireturn, 1)) : W p l e R s m args below meth c s.heap [] 0 0 (MQ below (vp_Si (fun q => q = r0)) args s 0 0 (fun _ => False)) (F0 m pc ls [.int y]) := by
  cases hf
  exact W.iret (v := y) E.1 E.2.1 hr (fun t ht hW => ⟨y, rfl, rfl, ht⟩) (fun q h => absurd h List.not_mem_nil) hdg hlocks
theorem s_zretR {ty : FieldType} (E : CallFix p m c cc nL s args Ts own) (hr : meth.sig.returnType = some ty) (hlocks : meth.locks = false) {y r0 : Int32} (hn : narrow ty (.int y) = .int y) (hf : some y = some r0) (hdg : decode cc pc = .ok (.ireturn, 1)) : W p l e R s m args below meth c s.heap [] 0 0 (MQ below (vp_Si (fun q => q = r0)) args s 0 0 (fun _ => False)) (F0 m pc ls [.int y]) := by
  cases hf
  exact W.zret (v := y) E.1 E.2.1 hr hn (fun t ht hW => ⟨y, rfl, rfl, ht⟩) (fun q h => absurd h List.not_mem_nil) hdg hlocks
theorem nz_of {y : Int32} (h : y = 0 ∨ y = 1) : narrow .boolean (.int y) = .int y := by
  rcases h with rfl | rfl <;> rfl
theorem nc_of {y : Int32} (h : 0 ≤ y.toInt ∧ y.toInt < 65536) : narrow .char (.int y) = .int y := by
  obtain ⟨k9, hk9, rfl⟩ := vp_in_of (n := 65536) (vp_in_iff.mpr h) (by decide)
  exact (pk_charN hk9).1
theorem s_iretW (E : CallFix p m c cc nL s args Ts own) (hr : meth.sig.returnType = some .int) (hlocks : meth.locks = false) (hB : sB D G (sA ad n s.heap.size) s.heap ad r v n x H locs) {y : Int32} {q0 : Int32 × sV} (hf : some (y, v) = some q0) (hdg : decode cc pc = .ok (.ireturn, 1)) : W p l e R s m args below meth c H locs 0 0 (MQ below (sQI D G ad r n x s.heap.size q0) args s 0 0 (sA ad n s.heap.size)) (F0 m pc ls [.int y]) := by
  cases hf
  exact W.iret (v := y) E.1 E.2.1 hr (fun t ht hW => ⟨⟨y, (), rfl, rfl, sB_at hB ht⟩, hB.2.2.F ht⟩) hB.2.2.2.2 hdg hlocks
theorem s_zretW {ty : FieldType} (E : CallFix p m c cc nL s args Ts own) (hr : meth.sig.returnType = some ty) (hlocks : meth.locks = false) (hB : sB D G (sA ad n s.heap.size) s.heap ad r v n x H locs) {y : Int32} {q0 : Int32 × sV} (hn : narrow ty (.int y) = .int y) (hf : some (y, v) = some q0) (hdg : decode cc pc = .ok (.ireturn, 1)) : W p l e R s m args below meth c H locs 0 0 (MQ below (sQI D G ad r n x s.heap.size q0) args s 0 0 (sA ad n s.heap.size)) (F0 m pc ls [.int y]) := by
  cases hf
  exact W.zret (v := y) E.1 E.2.1 hr hn (fun t ht hW => ⟨⟨y, (), rfl, rfl, sB_at hB ht⟩, hB.2.2.F ht⟩) hB.2.2.2.2 hdg hlocks
theorem s_vretW (E : CallFix p m c cc nL s args Ts own) (hr : meth.sig.returnType = none) (hlocks : meth.locks = false) (hB : sB D G (sA ad n s.heap.size) s.heap ad r v n x H locs) {q0 : sV} (hf : some v = some q0) (hdg : decode cc pc = .ok (.return_, 1)) : W p l e R s m args below meth c H locs 0 0 (MQ below (sQV D G ad r n x s.heap.size q0) args s 0 0 (sA ad n s.heap.size)) (F0 m pc ls []) := by
  cases hf
  exact W.vret E.1 E.2.1 hr (fun t ht hW => ⟨⟨(), rfl, trivial, sB_at hB ht⟩, hB.2.2.F ht⟩) hB.2.2.2.2 hdg hlocks
theorem s_dretW (E : CallFix p m c cc nL s args Ts own) (hr : meth.sig.returnType = some .double) (hlocks : meth.locks = false) (hB : sB D G (sA ad n s.heap.size) s.heap ad r v n x H locs) {y : UInt64} {q0 : UInt64 × sV} (hf : some (y, v) = some q0) (hdg : decode cc pc = .ok (.dreturn, 1)) : W p l e R s m args below meth c H locs 0 0 (MQ below (sQD D G ad r n x s.heap.size q0) args s 0 0 (sA ad n s.heap.size)) (F0 m pc ls [.double y]) := by
  cases hf
  exact W.dret (v := y) E.1 E.2.1 hr (fun t ht hW => ⟨⟨y, (), rfl, rfl, sB_at hB ht⟩, hB.2.2.F ht⟩) hB.2.2.2.2 hdg hlocks
theorem s_fretW (E : CallFix p m c cc nL s args Ts own) (hr : meth.sig.returnType = some .float) (hlocks : meth.locks = false) (hB : sB D G (sA ad n s.heap.size) s.heap ad r v n x H locs) {y : UInt32} {q0 : UInt32 × sV} (hf : some (y, v) = some q0) (hdg : decode cc pc = .ok (.freturn, 1)) : W p l e R s m args below meth c H locs 0 0 (MQ below (sQF D G ad r n x s.heap.size q0) args s 0 0 (sA ad n s.heap.size)) (F0 m pc ls [.float y]) := by
  cases hf
  exact W.fret (v := y) E.1 E.2.1 hr (fun t ht hW => ⟨⟨y, (), rfl, rfl, sB_at hB ht⟩, hB.2.2.F ht⟩) hB.2.2.2.2 hdg hlocks
/-- a case of a switch -/
theorem s_tsw (hx : p.tables.exec = Jvm.exec) (hb : c.code = cc) {dflt lo hi : Int} {offs : Array Int} {len : Nat} {y k : Int32} {off : Int} {tgt : Nat} (hdg : decode cc pc = .ok (.tableswitch dflt lo hi offs, len)) (hc : y = k) (h1 : ¬ k.toInt < lo) (h2 : ¬ hi < k.toInt) (ho : offs[(k.toInt - lo).toNat]? = some off) (ht : (pc : Int) + off = (tgt : Int))
    (kk : W p l e R s m args below meth c H locs cells slots Q (F0 m tgt ls rest)) : W p l e R s m args below meth c H locs cells slots Q (F0 m pc ls (.int y :: rest)) := by
  subst hc
  exact lv_tableIn hx hb hdg h1 h2 ho ht kk
end SCW
theorem ni_ {y k : Int32} (h : ¬ y = k) {z : Int} (hz : k.toInt = z) : y.toInt ≠ z := fun h1 => h (Int32.toInt_inj.mp (h1.trans hz.symm))
/-! SHAPES: which references stand where; they stay, but for the pool of fields -/
def sRS (b k : Nat) : Nat := if k < 12 then b + k + 2 else 0
def sRT (p k : Nat) : Nat := match p with
  | 0 => [2, 15, 21, 22, 36, 142, 0, 155].getD k 0
  | 14 => [16, 17, 19, 20].getD k 0
  | 16 => [18].getD k 0
  | 20 => [2, 15].getD k 0
  | 21 => [23, 15].getD k 0
  | 35 => [37].getD k 0
  | 36 => [38, 51, 64, 77, 90, 103, 116, 129].getD k 0
  | 154 => [156, 0, 157].getD k 0
  | 157 => [159, 160, 161, 162, 0, 0, 0, 163, 164, 165, 166, 167, 168, 169, 170, 0].getD k 0
  | 1 => sRS 1 k
  | 22 => sRS 22 k
  | 37 => sRS 37 k
  | 50 => sRS 50 k
  | 63 => sRS 63 k
  | 76 => sRS 76 k
  | 89 => sRS 89 k
  | 102 => sRS 102 k
  | 115 => sRS 115 k
  | 128 => sRS 128 k
  | 141 => sRS 141 k
  | _ => 0
def sSh (r : sR) : Prop := ∀ p k t, sRT p k = t + 1 → r p k = t + 1
theorem slt {n : Nat} (hn : 172 ≤ n) (q : Nat) (h : Nat.ble (q + 1) 172 = true) : q < n := Nat.lt_of_lt_of_le (Nat.le_of_ble_eq_true h) hn
/-- the places of the states -/
def okS (b : Nat) : Prop := b = 1 ∨ b = 22 ∨ b = 37 ∨ b = 50 ∨ b = 63 ∨ b = 76 ∨ b = 89 ∨ b = 102 ∨ b = 115 ∨ b = 128 ∨ b = 141
theorem okS_lt {b n : Nat} (h : okS b) (hn : 172 ≤ n) (j : Nat) (hj : Nat.ble (j + 1) 14 = true) : b + j < n := by
  have := Nat.le_of_ble_eq_true hj
  unfold okS at h
  omega
theorem okS_lt0 {b n : Nat} (h : okS b) (hn : 172 ≤ n) : b < n := by
  unfold okS at h
  omega
theorem okS_k {b : Nat} (h : okS b) : sks b = (7, 13) := by rcases h with rfl | rfl | rfl | rfl | rfl | rfl | rfl | rfl | rfl | rfl | rfl <;> rfl
theorem okS_kj {b : Nat} (h : okS b) (j : Nat) (q : Nat × Nat) (hq : sSt[j]? = some q) : sks (b + j) = q := by
  have hj : j < 13 := (List.getElem?_eq_some_iff.mp hq).1
  rcases h with rfl | rfl | rfl | rfl | rfl | rfl | rfl | rfl | rfl | rfl | rfl <;>
  (match j, hj, hq with
  | 0, _, hq => cases hq; rfl
  | 1, _, hq => cases hq; rfl
  | 2, _, hq => cases hq; rfl
  | 3, _, hq => cases hq; rfl
  | 4, _, hq => cases hq; rfl
  | 5, _, hq => cases hq; rfl
  | 6, _, hq => cases hq; rfl
  | 7, _, hq => cases hq; rfl
  | 8, _, hq => cases hq; rfl
  | 9, _, hq => cases hq; rfl
  | 10, _, hq => cases hq; rfl
  | 11, _, hq => cases hq; rfl
  | 12, _, hq => cases hq; rfl)
theorem okS_r {b : Nat} (h : okS b) (j : Nat) (hj : Nat.ble (j + 1) 12 = true) : sRT b j = (b + (j + 1)) + 1 := by
  have h1 : j < 12 := Nat.le_of_ble_eq_true hj
  have h2 : sRT b j = sRS b j := by rcases h with rfl | rfl | rfl | rfl | rfl | rfl | rfl | rfl | rfl | rfl | rfl <;> rfl
  rw [h2, sRS, if_pos h1]
  omega
theorem okS_hist (k : Nat) (hk : k < 8) : okS (37 + 13 * k) ∧ sRT 36 k = (37 + 13 * k) + 1 := by
  match k, hk with
  | 0, _ => exact ⟨by unfold okS; omega, rfl⟩
  | 1, _ => exact ⟨by unfold okS; omega, rfl⟩
  | 2, _ => exact ⟨by unfold okS; omega, rfl⟩
  | 3, _ => exact ⟨by unfold okS; omega, rfl⟩
  | 4, _ => exact ⟨by unfold okS; omega, rfl⟩
  | 5, _ => exact ⟨by unfold okS; omega, rfl⟩
  | 6, _ => exact ⟨by unfold okS; omega, rfl⟩
  | 7, _ => exact ⟨by unfold okS; omega, rfl⟩
/-- the two crowds and their states -/
def okC (c b : Nat) : Prop := (c = 20 ∧ b = 1) ∨ (c = 21 ∧ b = 22)
theorem okC_S {c b : Nat} (h : okC c b) : okS b := by
  rcases h with ⟨-, rfl⟩ | ⟨-, rfl⟩
  · exact Or.inl rfl
  · exact Or.inr (Or.inl rfl)
theorem okC_k {c b : Nat} (h : okC c b) : sks c = (2, 3) := by rcases h with ⟨rfl, -⟩ | ⟨rfl, -⟩ <;> rfl
theorem okC_lt {c b n : Nat} (h : okC c b) (hn : 172 ≤ n) : c < n := by rcases h with ⟨rfl, -⟩ | ⟨rfl, -⟩ <;> omega
theorem okC_r0 {c b : Nat} (h : okC c b) : sRT c 0 = b + 1 := by rcases h with ⟨rfl, rfl⟩ | ⟨rfl, rfl⟩ <;> rfl
theorem okC_r1 {c b : Nat} (h : okC c b) : sRT c 1 = 14 + 1 := by rcases h with ⟨rfl, rfl⟩ | ⟨rfl, rfl⟩ <;> rfl
/-- a field: the one of nowhere, or one of the pool -/
def okF (r : sR) (n q : Nat) : Prop := (q = 16 ∨ (172 ≤ q ∧ q % 2 = 0)) ∧ r q 0 = (q + 1) + 1 ∧ q + 1 < n
theorem okF_k {r : sR} {n q : Nat} (h : okF r n q) : sks q = (3, 2) := by
  rcases h.1 with rfl | ⟨h1, h2⟩
  · rfl
  · unfold sks
    rw [if_neg (by omega), if_pos h2]
theorem okF_k1 {r : sR} {n q : Nat} (h : okF r n q) : sks (q + 1) = (10, 140) := by
  rcases h.1 with rfl | ⟨h1, h2⟩
  · rfl
  · unfold sks
    rw [if_neg (by omega), if_neg (by omega)]
theorem okF_lt {r : sR} {n q : Nat} (h : okF r n q) : q < n := by have := h.2.2; omega
section SCX
variable {p : Program} {l : Launch} {e : Env} {R : Room} {s : State} {m : MethodId} {args : Array Value} {below : List Frame} {meth : Method} {c : Code} {H : Heap} {locs : List Loc} {cells slots : Nat} {Q : State → Prop} {pc : Nat} {ls : Array Slot} {rest st0 As : List Value} {cc : ByteArray} {nL : Nat} {own : String}
variable {D : va_G} {G : Nat → ClassId} {A : Nat → Prop} {H0 : Heap} {ad : Nat → Nat} {r : sR} {v : sV} {n : Nat} {x : Int64 × UInt64} {ρ : Type} {res : ρ}
theorem s_aaldS (E : CallFix p m c cc nL s args wsL_law own) (hU : sU D G s) (hP : va_P D vwCl (sWl G ad r v n x) H) (hsh : sSh r) (hn : 172 ≤ n) {i : Int32} {f : Nat → Option ρ} (hdg : decode cc pc = .ok (.aaload, 1)) (hf : ldS i f = some res)
    (k : ∀ q : Nat, okS q → f q = some res → W p l e R s m args below meth c H locs cells slots Q (F0 m (pc + 1) ls (.ref (ad q) :: rest))) : W p l e R s m args below meth c H locs cells slots Q (F0 m pc ls (.int i :: .ref (ad 36) :: rest)) := by
  unfold ldS at hf
  split at hf
  case isFalse => cases hf
  case isTrue hc =>
    obtain ⟨h1, h2⟩ := okS_hist i.toInt.toNat (by omega)
    refine va_aldq E.1 E.2.1 hU.1 hP 36 6 (cA := G 6) (C := "CrowdSimulator$State") (n := 8) (f := fun j => ro ad (r 36 j)) (by rw [sWl_get (slt hn 36 rfl)]; rfl) rfl (s_in hc) hdg ?_
    have h3 : r 36 i.toNatClampNeg = (37 + 13 * i.toInt.toNat) + 1 := hsh 36 _ _ h2
    rw [show va_rf (ro ad (r 36 i.toNatClampNeg)) = .ref (ad (37 + 13 * i.toInt.toNat)) by rw [h3]; rfl]
    exact k _ h1 hf
theorem s_copy (E : CallFix p m c cc nL s args wsL_law own) (hU : sU D G s) (hB : sB D G A H0 ad r v n x H locs) {q0 q1 N index : Nat} {nn : Int32} {f : sV → Option ρ} (hq0 : q0 < n) (hk0 : sks q0 = (10, N)) (hq1 : q1 < n) (hk1 : sks q1 = (10, N)) (hlink : Cond.methodLink own index arraycopyName ∈ wsL_law) (hnat : Cond.native arraycopyName ∈ wsL_law) (hstat : Cond.static arraycopyName ∈ wsL_law) (hini : Cond.initialized "java/lang/System" ∈ wsL_law)
    (hl : ls.size = nL) (hfr : 1 ≤ R.frames) (hlo : (rest.map fun v => v.category).sum + (nativeFrameWords "java/lang/System" "arraycopy" 5 + 11) ≤ R.locals) (hn3 : ¬ nn < 0) (hnn : nn.toNatClampNeg = N) (hdg : decode cc pc = .ok (.invokestatic index, 3)) (hf : cp v q1 q0 N f = some res)
    (k : ∀ v : sV, f v = some res → ∀ (H : Heap) (locs : List Loc), sB D G A H0 ad r v n x H locs → W p l e R s m args below meth c H locs cells slots Q (F0 m (pc + 3) ls rest)) : W p l e R s m args below meth c H locs cells slots Q (F0 m pc ls (.int nn :: .int 0 :: .ref (ad q1) :: .int 0 :: .ref (ad q0) :: rest)) := by
  have z0 : (0 : Int32).toNatClampNeg = 0 := rfl
  have hc9 : va_cpy (v q0) (v q1) (0 : Int32).toNatClampNeg (0 : Int32).toNatClampNeg nn.toNatClampNeg = cpv v q1 q0 N q1 := by
    funext j
    simp only [va_cpy, cpv, z0, hnn, Nat.zero_le, true_and, Nat.zero_add, Nat.sub_zero]
  have hset : (sWl G ad r v n x).set q1 (ad q1, .inl (G 0, N, .inl (va_cpy (v q0) (v q1) (0 : Int32).toNatClampNeg (0 : Int32).toNatClampNeg nn.toNatClampNeg))) = sWl G ad r (cpv v q1 q0 N) n x := by
    refine sWl_set hq1 ?_ (fun q' _ h' => sC_ne rfl (by funext j; simp [cpv, h']))
    rw [hc9]
    simp [sC, hk1]
  refine va_copyi (D := D) E.1 E.2.1 (E.2.2.1.trans hl.symm) E.2.2.2.1 (E.2.2.2.2 _ hlink) (E.2.2.2.2 _ hnat) (E.2.2.2.2 _ hstat) (E.2.2.2.2 _ hini) hU.1 hB.1 hB.2.1 hB.2.2 q0 q1 0 0 (c0 := G 0) (c1 := G 0) (n0 := N) (n1 := N) (f := v q0) (g := v q1) (ty := .int) (by rw [sWl_get hq0]; simp [sC, hk0]) (by rw [sWl_get hq1]; simp [sC, hk1]) rfl rfl rfl (by decide) (by decide) hn3 (by rw [hnn, z0]; omega) (by rw [hnn, z0]; omega) (fun i _ => rfl) hfr hlo hdg (fun H1 locs1 h1 h2 h3 => ?_)
  rw [hset] at h1 h2
  exact k _ hf H1 locs1 ⟨h1, h2, h3⟩
end SCX
