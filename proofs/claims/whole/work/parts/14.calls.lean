/-! CONTRACTS over the world, in four forms, and the rows that call by them -/
def sMS (l : Launch) (y : MethodName) (ws : List Cond) (rm : Room) (av : List Value) (o : Option Int32) : Prop :=
  ∀ r0, o = some r0 → Met l y ws rm (va_Pc av (fun _ => True)) (vp_Si (fun q => q = r0)) 0 0 (fun _ => False)
def sPR (D : va_G) (G : Nat → ClassId) (ad : Nat → Nat) (r : sR) (v : sV) (n : Nat) (x : Int64 × UInt64) (av : List Value) : Array Value → State → Prop := va_Pc av (fun U => sU D G U ∧ va_P D vwCl (sWl G ad r v n x) U.heap)
def sMR (l : Launch) (y : MethodName) (ws : List Cond) (rm : Room) (D : va_G) (G : Nat → ClassId) (ad : Nat → Nat) (r : sR) (v : sV) (n : Nat) (x : Int64 × UInt64) (av : List Value) (o : Option Int32) : Prop :=
  ∀ r0, o = some r0 → Met l y ws rm (sPR D G ad r v n x av) (vp_Si (fun q => q = r0)) 0 0 (fun _ => False)
def sPW (D : va_G) (G : Nat → ClassId) (ad : Nat → Nat) (r : sR) (v : sV) (n : Nat) (x : Int64 × UInt64) (sz : Nat) (av : List Value) : Array Value → State → Prop := va_Pc av (fun U => U.heap.size = sz ∧ sU D G U ∧ va_P D vwCl (sWl G ad r v n x) U.heap ∧ va_D (fun _ => True) (sWl G ad r v n x))
def sQI (D : va_G) (G : Nat → ClassId) (ad : Nat → Nat) (r : sR) (n : Nat) (x : Int64 × UInt64) (sz : Nat) (q0 : Int32 × sV) : Array Value → State → Outcome → State → Prop := va_Qi (fun (q : Int32) (_ : Unit) => q = q0.1) (fun _ t => va_P D vwCl (sWl G ad r q0.2 n x) t.heap) (sA ad r n sz)
def sQV (D : va_G) (G : Nat → ClassId) (ad : Nat → Nat) (r : sR) (n : Nat) (x : Int64 × UInt64) (sz : Nat) (q0 : sV) : Array Value → State → Outcome → State → Prop := va_Qv (fun (_ : Unit) => True) (fun _ t => va_P D vwCl (sWl G ad r q0 n x) t.heap) (sA ad r n sz)
def sMI (l : Launch) (y : MethodName) (ws : List Cond) (rm : Room) (D : va_G) (G : Nat → ClassId) (ad : Nat → Nat) (r : sR) (v : sV) (n : Nat) (x : Int64 × UInt64) (av : List Value) (o : Option (Int32 × sV)) : Prop :=
  ∀ (sz : Nat) (q0 : Int32 × sV), o = some q0 → Met l y ws rm (sPW D G ad r v n x sz av) (sQI D G ad r n x sz q0) 0 0 (sA ad r n sz)
def sMV (l : Launch) (y : MethodName) (ws : List Cond) (rm : Room) (D : va_G) (G : Nat → ClassId) (ad : Nat → Nat) (r : sR) (v : sV) (n : Nat) (x : Int64 × UInt64) (av : List Value) (o : Option sV) : Prop :=
  ∀ (sz : Nat) (q0 : sV), o = some q0 → Met l y ws rm (sPW D G ad r v n x sz av) (sQV D G ad r n x sz q0) 0 0 (sA ad r n sz)
def sQD (D : va_G) (G : Nat → ClassId) (ad : Nat → Nat) (r : sR) (n : Nat) (x : Int64 × UInt64) (sz : Nat) (q0 : UInt64 × sV) : Array Value → State → Outcome → State → Prop := va_Qd (fun (q : UInt64) (_ : Unit) => q = q0.1) (fun _ t => va_P D vwCl (sWl G ad r q0.2 n x) t.heap) (sA ad r n sz)
def sQF (D : va_G) (G : Nat → ClassId) (ad : Nat → Nat) (r : sR) (n : Nat) (x : Int64 × UInt64) (sz : Nat) (q0 : UInt32 × sV) : Array Value → State → Outcome → State → Prop := va_Qf (fun (q : UInt32) (_ : Unit) => q = q0.1) (fun _ t => va_P D vwCl (sWl G ad r q0.2 n x) t.heap) (sA ad r n sz)
def sMD (l : Launch) (y : MethodName) (ws : List Cond) (rm : Room) (D : va_G) (G : Nat → ClassId) (ad : Nat → Nat) (r : sR) (v : sV) (n : Nat) (x : Int64 × UInt64) (av : List Value) (o : Option (UInt64 × sV)) : Prop :=
  ∀ (sz : Nat) (q0 : UInt64 × sV), o = some q0 → Met l y ws rm (sPW D G ad r v n x sz av) (sQD D G ad r n x sz q0) 0 0 (sA ad r n sz)
def sMF (l : Launch) (y : MethodName) (ws : List Cond) (rm : Room) (D : va_G) (G : Nat → ClassId) (ad : Nat → Nat) (r : sR) (v : sV) (n : Nat) (x : Int64 × UInt64) (av : List Value) (o : Option (UInt32 × sV)) : Prop :=
  ∀ (sz : Nat) (q0 : UInt32 × sV), o = some q0 → Met l y ws rm (sPW D G ad r v n x sz av) (sQF D G ad r n x sz q0) 0 0 (sA ad r n sz)
theorem fb_S {av : List Value} : FrameBlind (va_Pc av (fun _ => True)) := fun _ _ _ _ q => q
theorem fb_R {D : va_G} {G : Nat → ClassId} {ad : Nat → Nat} {r : sR} {v : sV} {n : Nat} {x : Int64 × UInt64} {av : List Value} : FrameBlind (sPR D G ad r v n x av) := fun _ _ _ _ q => ⟨q.1, q.2.1.calling, q.2.2⟩
theorem fb_W {D : va_G} {G : Nat → ClassId} {ad : Nat → Nat} {r : sR} {v : sV} {n : Nat} {x : Int64 × UInt64} {sz : Nat} {av : List Value} : FrameBlind (sPW D G ad r v n x sz av) := fun _ _ _ _ q => ⟨q.1, q.2.1, q.2.2.1.calling, q.2.2.2.1, q.2.2.2.2⟩
/-- all words that any method here needs stand in wsL_law, and they are good -/
theorem goodG {c0 : Cond} (h : c0 ∈ wsL_law) (hg : ∀ w ∈ wsL_law, goodWord w = true) : GoodIn wsL_law (c0 :: wsL_law) := fun w hw => by
  have hm : w ∈ wsL_law := by
    rcases List.mem_cons.mp hw with rfl | h1
    · exact h
    · exact h1
  exact ⟨hm, good_of_word (hg w hm)⟩
def sOk (y : MethodName) (bytes : ByteArray) (maxL : Nat) (ret : Option FieldType) (n : Nat) : Prop := Cond.code y bytes maxL ret ∈ wsL_law ∧ Cond.initialized y.cls ∈ wsL_law ∧ (y.cls ≠ "java/lang/invoke/MethodHandle" ∧ y.cls ≠ "java/lang/invoke/VarHandle" ∧ (parseMethodDescriptor y.desc).map (fun d => d.parameters.length) = some n)
def sOkS (y : MethodName) (bytes : ByteArray) (maxL : Nat) (ret : Option FieldType) (n : Nat) : Prop := sOk y bytes maxL ret n ∧ Cond.static y ∈ wsL_law
def sOkV (y : MethodName) (bytes : ByteArray) (maxL : Nat) (ret : Option FieldType) (n : Nat) : Prop := sOk y bytes maxL ret n ∧ Cond.instanceMethod y ∈ wsL_law ∧ Cond.selects y.cls y y ∈ wsL_law
theorem cwGS {R rm : Room} {s : State} {args : Array Value} {own : String} {index maxL mc ms : Nat} {y : MethodName} {bytes : ByteArray} {ret : Option FieldType} (n : Nat) (ok : sOkS y bytes maxL ret n) (hl : Cond.methodLink own index y ∈ wsL_law) (hts : ∀ w ∈ wsL_law, w.before args s = true) (hrc : rm.cells = mc) (hrs : rm.slots = ms) (hR : rm.frames + 1 ≤ R.frames ∧ 8 + (maxL + 11) + rm.locals ≤ R.locals) :
    CallB R s args own index y bytes maxL ret (Cond.code y bytes maxL ret :: wsL_law) rm mc ms n ∧ (Cond.static y).before args s = true :=
  ⟨callB_of n hts (goodG ok.1.1 goodL) rfl hrc hrs (hts _ ok.1.2.1) (hts _ hl) ok.1.2.2 hR, hts _ ok.2⟩
theorem cwGV {R rm : Room} {s : State} {args : Array Value} {own : String} {index maxL mc ms : Nat} {y : MethodName} {bytes : ByteArray} {ret : Option FieldType} (n : Nat) (ok : sOkV y bytes maxL ret n) (hl : Cond.methodLink own index y ∈ wsL_law) (hts : ∀ w ∈ wsL_law, w.before args s = true) (hrc : rm.cells = mc) (hrs : rm.slots = ms) (hR : rm.frames + 1 ≤ R.frames ∧ 8 + (maxL + 11) + rm.locals ≤ R.locals) :
    CallW R s args own y.cls index y bytes maxL ret (Cond.code y bytes maxL ret :: wsL_law) rm mc ms n :=
  ⟨callB_of n hts (goodG ok.1.1 goodL) rfl hrc hrs (hts _ ok.1.2.1) (hts _ hl) ok.1.2.2 hR, hts _ ok.2.1, hts _ ok.2.2⟩
theorem cwGN {R rm : Room} {s : State} {args : Array Value} {own host : String} {index maxL mc ms : Nat} {y : MethodName} {bytes : ByteArray} {ret : Option FieldType} (n : Nat) (ok : sOkS y bytes maxL ret n) (hl : va_Nw (.methodLinkNest own index y host) s) (hts : ∀ w ∈ wsL_law, w.before args s = true) (hrc : rm.cells = mc) (hrs : rm.slots = ms) (hR : rm.frames + 1 ≤ R.frames ∧ 8 + (maxL + 11) + rm.locals ≤ R.locals) :
    va_CN R s args own index y host bytes maxL ret (Cond.code y bytes maxL ret :: wsL_law) rm mc ms n ∧ (Cond.static y).before args s = true ∧ True :=
  ⟨va_cnB n hts (goodG ok.1.1 goodL) rfl hrc hrs hl (hts _ ok.1.2.1) ok.1.2.2 hR, hts _ ok.2, trivial⟩
theorem sD_self {ad : Nat → Nat} {G : Nat → ClassId} {r : sR} {v : sV} {n sz : Nat} {x : Int64 × UInt64} {A : Nat → Prop} (h : va_D A (sWl G ad r v n x)) : va_D (sA ad r n sz) (sWl G ad r v n x) := by
  refine ⟨h.1, fun k q hk => ?_⟩
  obtain ⟨p, h1, rfl, rfl⟩ := sWl_out hk
  exact Or.inl ⟨p, h1, rfl⟩
theorem sB_at {D : va_G} {G : Nat → ClassId} {A : Nat → Prop} {H0 : Heap} {ad : Nat → Nat} {r : sR} {v : sV} {n : Nat} {x : Int64 × UInt64} {H : Heap} {locs : List Loc} {t : State} (hB : sB D G A H0 ad r v n x H locs) (ht : t.heap = H) : va_P D vwCl (sWl G ad r v n x) t.heap := ht ▸ hB.1
section SCW
variable {p : Program} {l : Launch} {e : Env} {R : Room} {s : State} {m : MethodId} {args : Array Value} {below : List Frame} {meth : Method} {c : Code} {H : Heap} {locs : List Loc} {cells slots : Nat} {Q : State → Prop} {pc : Nat} {ls : Array Slot} {rest st0 As : List Value} {cc : ByteArray} {nL : Nat} {Ts : List Cond} {own : String}
variable {D : va_G} {G : Nat → ClassId} {A : Nat → Prop} {H0 : Heap} {ad : Nat → Nat} {r : sR} {v : sV} {n : Nat} {x : Int64 × UInt64} {ρ : Type} {res : ρ}
variable {y : MethodName} {bytes : ByteArray} {maxL index k : Nat} {ret : Option FieldType} {ws : List Cond} {rm : Room}
theorem s_recv (hU : sU D G s) (hP : va_P D vwCl (sWl G ad r v n x) H) {q ci N : Nat} {C : String} {T : u_T} {ty : Nat → FieldType} (hcl : sCls ci C T N ty) (hq : lv r n q) (hk : sks q = (ci, N)) : ∃ cell : Cell, H[ad q]? = some cell ∧ cell.vm.isStatics = false ∧ s.vm.findClass C = some cell.cls :=
  va_recv hU.1 hP hcl.2.1 (q0 := sIx r q) (ci := ci) (fs := sFs ad (r q) (v q) (sFl ci)) (by rw [sWl_get hq]; simp only [sC, hk, hcl.1, if_true])
/-- what a call needs of the caller: room on the stack and in the frame -/
theorem rS_S (E : CallFix p m c cc nL s args Ts own) {o : Option Int32} (M : sMS l y ws rm As o) (cw : CallB R s args own index y bytes maxL ret ws rm 0 0 k ∧ (Cond.static y).before args s = true) (hn : As.length = k) (hl : ls.size = nL) (hst : (rest.map fun v => v.category).sum ≤ 8) (hdg : decode cc pc = .ok (.invokestatic index, 3)) (hc : cells ≤ R.cells ∧ slots ≤ R.slots) (hs : st0 = As.reverse ++ rest) :
    ∀ r0, o = some r0 → va_Run p l e R s m args below meth c H locs cells slots 0 0 (F0 m pc ls st0) rest (vp_Si (fun q => q = r0) As.toArray) (fun _ => False) :=
  fun r0 h0 => va_runS E (M r0 h0) cw ⟨fb_S, fun U hU hW => ⟨rfl, trivial⟩⟩ rfl hn hl hs (lv_room hst) hdg hc
theorem rSN_S (E : CallFix p m c cc nL s args Ts own) {o : Option Int32} {host : String} (M : sMS l y ws rm As o) (cw : va_CN R s args own index y host bytes maxL ret ws rm 0 0 k ∧ (Cond.static y).before args s = true ∧ True) (hn : As.length = k) (hl : ls.size = nL) (hst : (rest.map fun v => v.category).sum ≤ 8) (hdg : decode cc pc = .ok (.invokestatic index, 3)) (hc : cells ≤ R.cells ∧ slots ≤ R.slots) (hs : st0 = As.reverse ++ rest) :
    ∀ r0, o = some r0 → va_Run p l e R s m args below meth c H locs cells slots 0 0 (F0 m pc ls st0) rest (vp_Si (fun q => q = r0) As.toArray) (fun _ => False) :=
  fun r0 h0 => va_runSN E (M r0 h0) cw ⟨fb_S, fun U hU hW => ⟨rfl, trivial⟩⟩ rfl hn hl hs (lv_room hst) hdg hc
theorem rV_R (E : CallFix p m c cc nL s args Ts own) (hU : sU D G s) (hP : va_P D vwCl (sWl G ad r v n x) H) {q ci N : Nat} {C : String} {T : u_T} {ty : Nat → FieldType} (hcl : sCls ci C T N ty) (hq : lv r n q) (hk : sks q = (ci, N)) {o : Option Int32} (M : sMR l y ws rm D G ad r v n x (.ref (ad q) :: As) o) (cw : CallW R s args own C index y bytes maxL ret ws rm 0 0 k) (hn : As.length = k) (hl : ls.size = nL) (hst : (rest.map fun v => v.category).sum ≤ 8) (hdg : decode cc pc = .ok (.invokevirtual index, 3)) (hc : cells ≤ R.cells ∧ slots ≤ R.slots) (hs : st0 = As.reverse ++ .ref (ad q) :: rest) :
    ∀ r0, o = some r0 → va_Run p l e R s m args below meth c H locs cells slots 0 0 (F0 m pc ls st0) rest (vp_Si (fun q => q = r0) (Value.ref (ad q) :: As).toArray) (fun _ => False) :=
  fun r0 h0 => va_runV E (M r0 h0) cw ⟨fb_R, s_recv hU hP hcl hq hk, fun U hU1 hW => ⟨rfl, hU.warm hW, by rw [hU1]; exact hP⟩⟩ rfl hn hl hs (lv_room hst) hdg hc
theorem rS_R (E : CallFix p m c cc nL s args Ts own) (hU : sU D G s) (hP : va_P D vwCl (sWl G ad r v n x) H) {o : Option Int32} (M : sMR l y ws rm D G ad r v n x As o) (cw : CallB R s args own index y bytes maxL ret ws rm 0 0 k ∧ (Cond.static y).before args s = true) (hn : As.length = k) (hl : ls.size = nL) (hst : (rest.map fun v => v.category).sum ≤ 8) (hdg : decode cc pc = .ok (.invokestatic index, 3)) (hc : cells ≤ R.cells ∧ slots ≤ R.slots) (hs : st0 = As.reverse ++ rest) :
    ∀ r0, o = some r0 → va_Run p l e R s m args below meth c H locs cells slots 0 0 (F0 m pc ls st0) rest (vp_Si (fun q => q = r0) As.toArray) (fun _ => False) :=
  fun r0 h0 => va_runS E (M r0 h0) cw ⟨fb_R, fun U hU1 hW => ⟨rfl, hU.warm hW, by rw [hU1]; exact hP⟩⟩ rfl hn hl hs (lv_room hst) hdg hc
theorem rV_W (E : CallFix p m c cc nL s args Ts own) (hU : sU D G s) (hB : sB D G A H0 ad r v n x H locs) {q ci N : Nat} {C : String} {T : u_T} {ty : Nat → FieldType} (hcl : sCls ci C T N ty) (hq : lv r n q) (hk : sks q = (ci, N)) {Qc : Array Value → State → Outcome → State → Prop} (M : Met l y ws rm (sPW D G ad r v n x H.size (.ref (ad q) :: As)) Qc 0 0 (sA ad r n H.size)) (cw : CallW R s args own C index y bytes maxL ret ws rm 0 0 k) (hn : As.length = k) (hl : ls.size = nL) (hst : (rest.map fun v => v.category).sum ≤ 8) (hdg : decode cc pc = .ok (.invokevirtual index, 3)) (hc : cells ≤ R.cells ∧ slots ≤ R.slots) (hs : st0 = As.reverse ++ .ref (ad q) :: rest) :
    va_Run p l e R s m args below meth c H locs cells slots 0 0 (F0 m pc ls st0) rest (Qc (Value.ref (ad q) :: As).toArray) (sA ad r n H.size) :=
  va_runV E M cw ⟨fb_W, s_recv hU hB.1 hcl hq hk, fun U hU1 hW => ⟨rfl, by rw [hU1], hU.warm hW, by rw [hU1]; exact hB.1, ⟨hB.2.1.1, fun _ _ _ => trivial⟩⟩⟩ rfl hn hl hs (lv_room hst) hdg hc
theorem rS_W (E : CallFix p m c cc nL s args Ts own) (hU : sU D G s) (hB : sB D G A H0 ad r v n x H locs) {Qc : Array Value → State → Outcome → State → Prop} (M : Met l y ws rm (sPW D G ad r v n x H.size As) Qc 0 0 (sA ad r n H.size)) (cw : CallB R s args own index y bytes maxL ret ws rm 0 0 k ∧ (Cond.static y).before args s = true) (hn : As.length = k) (hl : ls.size = nL) (hst : (rest.map fun v => v.category).sum ≤ 8) (hdg : decode cc pc = .ok (.invokestatic index, 3)) (hc : cells ≤ R.cells ∧ slots ≤ R.slots) (hs : st0 = As.reverse ++ rest) :
    va_Run p l e R s m args below meth c H locs cells slots 0 0 (F0 m pc ls st0) rest (Qc As.toArray) (sA ad r n H.size) :=
  va_runS E M cw ⟨fb_W, fun U hU1 hW => ⟨rfl, by rw [hU1], hU.warm hW, by rw [hU1]; exact hB.1, ⟨hB.2.1.1, fun _ _ _ => trivial⟩⟩⟩ rfl hn hl hs (lv_room hst) hdg hc
theorem sA_in (hB : sB D G A H0 ad r v n x H locs) (hA0 : ∀ q, H0.size ≤ q → A q) : ∀ q, sA ad r n H.size q → A q := by
  intro q h
  rcases h with ⟨p, hp, rfl⟩ | h
  · exact hB.2.1.2 _ _ (sWl_get hp)
  · exact hA0 q (Nat.le_trans hB.2.2.1 h)
/-- behind a call that changes nothing -/
theorem sc_R {o : Option Int32} {f : Int32 → Option ρ} {a : Array Value} (hf : o.bind f = some res) (hr : ∀ r0, o = some r0 → va_Run p l e R s m args below meth c H locs cells slots 0 0 (F0 m pc ls st0) rest (vp_Si (fun q => q = r0) a) (fun _ => False))
    (kk : ∀ y : Int32, f y = some res → W p l e R s m args below meth c H locs cells slots Q (F0 m (pc + 3) ls (.int y :: rest))) : W p l e R s m args below meth c H locs cells slots Q (F0 m pc ls st0) := by
  obtain ⟨r0, h0, hf⟩ := bi_e hf
  intro T hT X
  obtain ⟨v, st₀, t, T', L, h1, X', hL, e1, -, ⟨q, hv, hp, hh⟩, st⟩ := hr r0 h0 T hT X
  cases hv
  subst hp
  obtain ⟨t2, a1, b1⟩ := kk q hf T' (by rw [e1, hh, h1]) (Stand.forget X' (fun q h => (hL q h).elim))
  exact ⟨t2, st t2 a1, b1⟩
/-- behind a call that writes: a number comes back -/
theorem sc_I (hB : sB D G A H0 ad r v n x H locs) (hA0 : ∀ q, H0.size ≤ q → A q) {o : Option (Int32 × sV)} {f : Int32 × sV → Option ρ} {a : Array Value} (hf : o.bind f = some res) (hr : ∀ q0, o = some q0 → va_Run p l e R s m args below meth c H locs cells slots 0 0 (F0 m pc ls st0) rest (sQI D G ad r n x H.size q0 a) (sA ad r n H.size))
    (kk : ∀ (y : Int32) (v : sV), f (y, v) = some res → ∀ (H : Heap) (locs : List Loc), sB D G A H0 ad r v n x H locs → W p l e R s m args below meth c H locs cells slots Q (F0 m (pc + 3) ls (.int y :: rest))) : W p l e R s m args below meth c H locs cells slots Q (F0 m pc ls st0) := by
  obtain ⟨⟨y0, v0⟩, h0, hf⟩ := bi_e hf
  refine va_calli (hr _ h0) hB.2.2 (fun q _ h => sA_in hB hA0 q h) (sA_in hB hA0) (fun r1 u t H1 locs1 ht hvm hw hb hz hk hS => ?_)
  have hw : r1 = y0 := hw
  subst hw
  exact kk _ v0 hf H1 locs1 ⟨by rw [← ht]; exact hb, sD_any hB.2.1, hS⟩
/-- behind a call that writes: nothing comes back -/
theorem sc_V (hB : sB D G A H0 ad r v n x H locs) (hA0 : ∀ q, H0.size ≤ q → A q) {o : Option sV} {f : sV → Option ρ} {a : Array Value} (hf : o.bind f = some res) (hr : ∀ q0, o = some q0 → va_Run p l e R s m args below meth c H locs cells slots 0 0 (F0 m pc ls st0) rest (sQV D G ad r n x H.size q0 a) (sA ad r n H.size))
    (kk : ∀ (v : sV), f v = some res → ∀ (H : Heap) (locs : List Loc), sB D G A H0 ad r v n x H locs → W p l e R s m args below meth c H locs cells slots Q (F0 m (pc + 3) ls rest)) : W p l e R s m args below meth c H locs cells slots Q (F0 m pc ls st0) := by
  obtain ⟨v0, h0, hf⟩ := bi_e hf
  refine va_callv (hr _ h0) hB.2.2 (fun q _ h => sA_in hB hA0 q h) (sA_in hB hA0) (fun u t H1 locs1 ht hvm hw hb hz hk hS => ?_)
  exact kk v0 hf H1 locs1 ⟨by rw [← ht]; exact hb, sD_any hB.2.1, hS⟩
/-! ends -/
theorem s_iretR (E : CallFix p m c cc nL s args Ts own) (hr : meth.sig.returnType = some .int) (hlocks : meth.locks = false) {y r0 : Int32} (hf : some y = some r0) (hdg : decode cc pc = .ok (.ireturn, 1)) : W p l e R s m args below meth c s.heap [] 0 0 (MQ below (vp_Si (fun q => q = r0)) args s 0 0 (fun _ => False)) (F0 m pc ls [.int y]) := by
  cases hf
  exact W.iret (v := y) E.1 E.2.1 hr (fun t ht hW => ⟨y, rfl, rfl, ht⟩) (fun q h => absurd h List.not_mem_nil) hdg hlocks
theorem s_zretR {ty : FieldType} (E : CallFix p m c cc nL s args Ts own) (hr : meth.sig.returnType = some ty) (hlocks : meth.locks = false) {y r0 : Int32} (hn : narrow ty (.int y) = .int y) (hf : some y = some r0) (hdg : decode cc pc = .ok (.ireturn, 1)) : W p l e R s m args below meth c s.heap [] 0 0 (MQ below (vp_Si (fun q => q = r0)) args s 0 0 (fun _ => False)) (F0 m pc ls [.int y]) := by
  cases hf
  exact W.zret (v := y) E.1 E.2.1 hr hn (fun t ht hW => ⟨y, rfl, rfl, ht⟩) (fun q h => absurd h List.not_mem_nil) hdg hlocks
theorem nz_of {y : Int32} (h : y = 0 ∨ y = 1) : narrow .boolean (.int y) = .int y := by
  rcases h with rfl | rfl <;> rfl
theorem nc_of {y : Int32} (h : 0 ≤ y.toInt ∧ y.toInt < 65536) : narrow .char (.int y) = .int y := by
  obtain ⟨k9, hk9, rfl⟩ := vp_in_of (n := 65536) (vp_in_iff.mpr h) (by decide)
  exact (pk_charN hk9).1
theorem s_iretW (E : CallFix p m c cc nL s args Ts own) (hr : meth.sig.returnType = some .int) (hlocks : meth.locks = false) (hB : sB D G (sA ad r n s.heap.size) s.heap ad r v n x H locs) {y : Int32} {q0 : Int32 × sV} (hf : some (y, v) = some q0) (hdg : decode cc pc = .ok (.ireturn, 1)) : W p l e R s m args below meth c H locs 0 0 (MQ below (sQI D G ad r n x s.heap.size q0) args s 0 0 (sA ad r n s.heap.size)) (F0 m pc ls [.int y]) := by
  cases hf
  exact W.iret (v := y) E.1 E.2.1 hr (fun t ht hW => ⟨⟨y, (), rfl, rfl, sB_at hB ht⟩, hB.2.2.F ht⟩) hB.2.2.2.2 hdg hlocks
theorem s_zretW {ty : FieldType} (E : CallFix p m c cc nL s args Ts own) (hr : meth.sig.returnType = some ty) (hlocks : meth.locks = false) (hB : sB D G (sA ad r n s.heap.size) s.heap ad r v n x H locs) {y : Int32} {q0 : Int32 × sV} (hn : narrow ty (.int y) = .int y) (hf : some (y, v) = some q0) (hdg : decode cc pc = .ok (.ireturn, 1)) : W p l e R s m args below meth c H locs 0 0 (MQ below (sQI D G ad r n x s.heap.size q0) args s 0 0 (sA ad r n s.heap.size)) (F0 m pc ls [.int y]) := by
  cases hf
  exact W.zret (v := y) E.1 E.2.1 hr hn (fun t ht hW => ⟨⟨y, (), rfl, rfl, sB_at hB ht⟩, hB.2.2.F ht⟩) hB.2.2.2.2 hdg hlocks
theorem s_vretW (E : CallFix p m c cc nL s args Ts own) (hr : meth.sig.returnType = none) (hlocks : meth.locks = false) (hB : sB D G (sA ad r n s.heap.size) s.heap ad r v n x H locs) {q0 : sV} (hf : some v = some q0) (hdg : decode cc pc = .ok (.return_, 1)) : W p l e R s m args below meth c H locs 0 0 (MQ below (sQV D G ad r n x s.heap.size q0) args s 0 0 (sA ad r n s.heap.size)) (F0 m pc ls []) := by
  cases hf
  exact W.vret E.1 E.2.1 hr (fun t ht hW => ⟨⟨(), rfl, trivial, sB_at hB ht⟩, hB.2.2.F ht⟩) hB.2.2.2.2 hdg hlocks
theorem s_dretW (E : CallFix p m c cc nL s args Ts own) (hr : meth.sig.returnType = some .double) (hlocks : meth.locks = false) (hB : sB D G (sA ad r n s.heap.size) s.heap ad r v n x H locs) {y : UInt64} {q0 : UInt64 × sV} (hf : some (y, v) = some q0) (hdg : decode cc pc = .ok (.dreturn, 1)) : W p l e R s m args below meth c H locs 0 0 (MQ below (sQD D G ad r n x s.heap.size q0) args s 0 0 (sA ad r n s.heap.size)) (F0 m pc ls [.double y]) := by
  cases hf
  exact W.dret (v := y) E.1 E.2.1 hr (fun t ht hW => ⟨⟨y, (), rfl, rfl, sB_at hB ht⟩, hB.2.2.F ht⟩) hB.2.2.2.2 hdg hlocks
theorem s_fretW (E : CallFix p m c cc nL s args Ts own) (hr : meth.sig.returnType = some .float) (hlocks : meth.locks = false) (hB : sB D G (sA ad r n s.heap.size) s.heap ad r v n x H locs) {y : UInt32} {q0 : UInt32 × sV} (hf : some (y, v) = some q0) (hdg : decode cc pc = .ok (.freturn, 1)) : W p l e R s m args below meth c H locs 0 0 (MQ below (sQF D G ad r n x s.heap.size q0) args s 0 0 (sA ad r n s.heap.size)) (F0 m pc ls [.float y]) := by
  cases hf
  exact W.fret (v := y) E.1 E.2.1 hr (fun t ht hW => ⟨⟨y, (), rfl, rfl, sB_at hB ht⟩, hB.2.2.F ht⟩) hB.2.2.2.2 hdg hlocks
/-- a case of a switch -/
theorem s_tsw (hx : p.tables.exec = Jvm.exec) (hb : c.code = cc) {dflt lo hi : Int} {offs : Array Int} {len : Nat} {y k : Int32} {off : Int} {tgt : Nat} (hdg : decode cc pc = .ok (.tableswitch dflt lo hi offs, len)) (hc : y = k) (h1 : ¬ k.toInt < lo) (h2 : ¬ hi < k.toInt) (ho : offs[(k.toInt - lo).toNat]? = some off) (ht : (pc : Int) + off = (tgt : Int))
    (kk : W p l e R s m args below meth c H locs cells slots Q (F0 m tgt ls rest)) : W p l e R s m args below meth c H locs cells slots Q (F0 m pc ls (.int y :: rest)) := by
  subst hc
  exact lv_tableIn hx hb hdg h1 h2 ho ht kk
end SCW
theorem ni_ {y k : Int32} (h : ¬ y = k) {z : Int} (hz : k.toInt = z) : y.toInt ≠ z := fun h1 => h (Int32.toInt_inj.mp (h1.trans hz.symm))
/-! SHAPES: which references stand where; they stay, but for the pool of fields -/
def sRS (b k : Nat) : Nat := if k < 12 then b + k + 2 else 0
def sRT (p k : Nat) : Nat := match p with
  | 0 => [2, 15, 21, 22, 36, 142, 0, 155].getD k 0
  | 14 => [16, 17, 19, 20].getD k 0
  | 16 => [18].getD k 0
  | 20 => [2, 15].getD k 0
  | 21 => [23, 15].getD k 0
  | 35 => [37].getD k 0
  | 154 => [156, 0, 157].getD k 0
  | 157 => [159, 160, 161, 162, 0, 0, 0, 163, 164, 165, 166, 167, 168, 169, 170, 0].getD k 0
  | 1 => sRS 1 k
  | 22 => sRS 22 k
  | 141 => sRS 141 k
  | _ => 0
def sAlB (q : Nat) : Bool := Nat.ble (q + 1) 37 || (Nat.ble 141 q && Nat.ble (q + 1) 172)
/-- a state of the ring: not made yet, or all of it stands -/
def sHi (r : sR) (i : Nat) : Prop := r 36 i = 0 ∨ (r 36 i = 37 + 13 * i + 1 ∧ (∀ j, j < 12 → r (37 + 13 * i) j = 37 + 13 * i + (j + 1) + 1) ∧ ∀ j, j < 13 → r (37 + 13 * i + j) gI = 0)
def sSh (r : sR) : Prop := (∀ p k t, sRT p k = t + 1 → r p k = t + 1) ∧ (∀ q, sAlB q = true → r q gI = 0) ∧ ∀ i, i < 8 → sHi r i
theorem slt {r : sR} {n : Nat} (hsh : sSh r) (hn : 172 ≤ n) (q : Nat) (h : sAlB q = true) : lv r n q := by
  refine ⟨?_, hsh.2.1 q h⟩
  have h1 : (q + 1 ≤ 37) ∨ (141 ≤ q ∧ q + 1 ≤ 172) := by
    unfold sAlB at h
    rcases Bool.or_eq_true_iff.mp h with h | h
    · exact Or.inl (Nat.le_of_ble_eq_true h)
    · obtain ⟨h2, h3⟩ := Bool.and_eq_true_iff.mp h
      exact Or.inr ⟨Nat.le_of_ble_eq_true h2, Nat.le_of_ble_eq_true h3⟩
  omega
/-- the places of the states -/
def okS (r : sR) (b : Nat) : Prop := (b = 1 ∨ b = 22 ∨ b = 141) ∨ ∃ i, i < 8 ∧ b = 37 + 13 * i ∧ r 36 i = b + 1
theorem okS_lt {r : sR} {b n : Nat} (hsh : sSh r) (h : okS r b) (hn : 172 ≤ n) (j : Nat) (hj : Nat.ble (j + 1) 13 = true) : lv r n (b + j) := by
  have hj := Nat.le_of_ble_eq_true hj
  rcases h with h | ⟨i, h1, rfl, h2⟩
  · refine ⟨by omega, hsh.2.1 _ ?_⟩
    unfold sAlB
    rw [Bool.or_eq_true_iff, Bool.and_eq_true_iff]
    rcases h with rfl | rfl | rfl
    · exact Or.inl (Nat.ble_eq_true_of_le (by omega))
    · exact Or.inl (Nat.ble_eq_true_of_le (by omega))
    · exact Or.inr ⟨Nat.ble_eq_true_of_le (by omega), Nat.ble_eq_true_of_le (by omega)⟩
  · rcases hsh.2.2 i h1 with h3 | h3
    · omega
    · exact ⟨by omega, h3.2.2 j (by omega)⟩
theorem okS_lt0 {r : sR} {b n : Nat} (hsh : sSh r) (h : okS r b) (hn : 172 ≤ n) : lv r n b := okS_lt hsh h hn 0 rfl
theorem okS_hist {r : sR} (k : Nat) (hk : k < 8) : sks (37 + 13 * k) = (7, 13) ∧ ∀ (j : Nat) (q : Nat × Nat), sSt[j]? = some q → sks (37 + 13 * k + j) = q := by
  have hj : ∀ (j : Nat) (q : Nat × Nat), sSt[j]? = some q → j < 13 := fun j q hq => (List.getElem?_eq_some_iff.mp hq).1
  have h1 : ∀ k : Fin 8, ∀ j : Fin 13, sSt[j.val]? = some (sks (37 + 13 * k.val + j.val)) := by decide +kernel
  refine ⟨?_, fun j q hq => ?_⟩
  · have h2 := h1 ⟨k, hk⟩ ⟨0, by decide⟩
    exact (Option.some.inj h2).symm
  · have h2 := h1 ⟨k, hk⟩ ⟨j, hj j q hq⟩
    exact Option.some.inj (h2.symm.trans hq)
theorem okS_k {r : sR} {b : Nat} (_ : sSh r) (h : okS r b) : sks b = (7, 13) := by
  rcases h with (rfl | rfl | rfl) | ⟨i, h1, rfl, -⟩
  · rfl
  · rfl
  · rfl
  · exact (okS_hist (r := r) i h1).1
theorem okS_kj {r : sR} {b : Nat} (_ : sSh r) (h : okS r b) (j : Nat) (q : Nat × Nat) (hq : sSt[j]? = some q) : sks (b + j) = q := by
  rcases h with h | ⟨i, h1, rfl, -⟩
  · have hj : j < 13 := (List.getElem?_eq_some_iff.mp hq).1
    have h1 : ∀ j : Fin 13, sSt[j.val]? = some (sks (1 + j.val)) ∧ sSt[j.val]? = some (sks (22 + j.val)) ∧ sSt[j.val]? = some (sks (141 + j.val)) := by decide +kernel
    obtain ⟨g1, g2, g3⟩ := h1 ⟨j, hj⟩
    rcases h with rfl | rfl | rfl
    · exact Option.some.inj (g1.symm.trans hq)
    · exact Option.some.inj (g2.symm.trans hq)
    · exact Option.some.inj (g3.symm.trans hq)
  · exact (okS_hist (r := r) i h1).2 j q hq
theorem okS_r {r : sR} {b : Nat} (hsh : sSh r) (h : okS r b) (j : Nat) (hj : Nat.ble (j + 1) 12 = true) : r b j = (b + (j + 1)) + 1 := by
  have hj := Nat.le_of_ble_eq_true hj
  rcases h with h | ⟨i, h1, rfl, h2⟩
  · refine hsh.1 _ _ _ ?_
    have e : sRT b j = sRS b j := by rcases h with rfl | rfl | rfl <;> rfl
    rw [e, sRS, if_pos (by omega)]
    omega
  · rcases hsh.2.2 i h1 with h3 | h3
    · omega
    · exact h3.2.1 j (by omega)
/-- the two crowds and their states -/
def okC (c b : Nat) : Prop := (c = 20 ∧ b = 1) ∨ (c = 21 ∧ b = 22)
theorem okC_S {r : sR} {c b : Nat} (h : okC c b) : okS r b := by
  rcases h with ⟨-, rfl⟩ | ⟨-, rfl⟩
  · exact Or.inl (Or.inl rfl)
  · exact Or.inl (Or.inr (Or.inl rfl))
theorem okC_k {c b : Nat} (h : okC c b) : sks c = (2, 3) := by rcases h with ⟨rfl, -⟩ | ⟨rfl, -⟩ <;> rfl
theorem okC_lt {r : sR} {c b n : Nat} (hsh : sSh r) (h : okC c b) (hn : 172 ≤ n) : lv r n c := by
  rcases h with ⟨rfl, -⟩ | ⟨rfl, -⟩
  · exact slt hsh hn 20 rfl
  · exact slt hsh hn 21 rfl
theorem okC_r0 {c b : Nat} (h : okC c b) : sRT c 0 = b + 1 := by rcases h with ⟨rfl, rfl⟩ | ⟨rfl, rfl⟩ <;> rfl
theorem okC_r1 {c b : Nat} (h : okC c b) : sRT c 1 = 14 + 1 := by rcases h with ⟨rfl, rfl⟩ | ⟨rfl, rfl⟩ <;> rfl
/-- a field: the one of nowhere, or one of the pool -/
def okF (r : sR) (n q : Nat) : Prop := (q = 16 ∨ (172 ≤ q ∧ q % 2 = 0)) ∧ r q 0 = (q + 1) + 1 ∧ q + 1 < n ∧ r q gI = 0 ∧ r (q + 1) gI = 0
theorem okF_k {r : sR} {n q : Nat} (h : okF r n q) : sks q = (3, 2) := by
  rcases h.1 with rfl | ⟨h1, h2⟩
  · rfl
  · unfold sks
    rw [if_neg (by omega), if_pos h2]
theorem okF_k1 {r : sR} {n q : Nat} (h : okF r n q) : sks (q + 1) = (10, 140) := by
  rcases h.1 with rfl | ⟨h1, h2⟩
  · rfl
  · unfold sks
    rw [if_neg (by omega), if_neg (by omega)]
theorem okF_lt {r : sR} {n q : Nat} (h : okF r n q) : lv r n q := ⟨by have := h.2.2.1; omega, h.2.2.2.1⟩
theorem okF_lt1 {r : sR} {n q : Nat} (h : okF r n q) : lv r n (q + 1) := ⟨h.2.2.1, h.2.2.2.2⟩
section SCX
variable {p : Program} {l : Launch} {e : Env} {R : Room} {s : State} {m : MethodId} {args : Array Value} {below : List Frame} {meth : Method} {c : Code} {H : Heap} {locs : List Loc} {cells slots : Nat} {Q : State → Prop} {pc : Nat} {ls : Array Slot} {rest st0 As : List Value} {cc : ByteArray} {nL : Nat} {own : String}
variable {D : va_G} {G : Nat → ClassId} {A : Nat → Prop} {H0 : Heap} {ad : Nat → Nat} {r : sR} {v : sV} {n : Nat} {x : Int64 × UInt64} {ρ : Type} {res : ρ}
theorem s_aaldS (E : CallFix p m c cc nL s args wsL_law own) (hU : sU D G s) (hP : va_P D vwCl (sWl G ad r v n x) H) (hsh : sSh r) (hn : 172 ≤ n) {i : Int32} {f0 : Option ρ} {f1 : Nat → Option ρ} (hdg : decode cc pc = .ok (.aaload, 1)) (hf : ldS r i f0 f1 = some res)
    (k0 : f0 = some res → W p l e R s m args below meth c H locs cells slots Q (F0 m (pc + 1) ls (.null :: rest)))
    (k1 : ∀ q : Nat, okS r q → f1 q = some res → W p l e R s m args below meth c H locs cells slots Q (F0 m (pc + 1) ls (.ref (ad q) :: rest))) : W p l e R s m args below meth c H locs cells slots Q (F0 m pc ls (.int i :: .ref (ad 36) :: rest)) := by
  unfold ldS at hf
  split at hf
  case isFalse => cases hf
  case isTrue hc =>
    refine va_aldq E.1 E.2.1 hU.1 hP (sIx r 36) 6 (cA := G 6) (C := "CrowdSimulator$State") (n := 8) (f := fun j => ro ad (r 36 j)) (by rw [sWl_get (slt hsh hn 36 rfl)]; rfl) rfl (s_in hc) hdg ?_
    have hi : i.toNatClampNeg < 8 := by
      show i.toInt.toNat < 8
      omega
    cases h1 : r 36 i.toNatClampNeg with
    | zero =>
      rw [h1] at hf
      exact k0 hf
    | succ q =>
      rw [h1] at hf
      refine k1 q (Or.inr ⟨i.toNatClampNeg, hi, ?_, h1⟩) hf
      rcases hsh.2.2 _ hi with h3 | h3
      · omega
      · omega
theorem s_copy (E : CallFix p m c cc nL s args wsL_law own) (hU : sU D G s) (hB : sB D G A H0 ad r v n x H locs) {q0 q1 N index : Nat} {nn : Int32} {f : sV → Option ρ} (hq0 : lv r n q0) (hk0 : sks q0 = (10, N)) (hq1 : lv r n q1) (hk1 : sks q1 = (10, N)) (hlink : Cond.methodLink own index arraycopyName ∈ wsL_law) (hnat : Cond.native arraycopyName ∈ wsL_law) (hstat : Cond.static arraycopyName ∈ wsL_law) (hini : Cond.initialized "java/lang/System" ∈ wsL_law)
    (hl : ls.size = nL) (hfr : 1 ≤ R.frames) (hlo : (rest.map fun v => v.category).sum + (nativeFrameWords "java/lang/System" "arraycopy" 5 + 11) ≤ R.locals) (hn3 : ¬ nn < 0) (hnn : nn.toNatClampNeg = N) (hdg : decode cc pc = .ok (.invokestatic index, 3)) (hf : cp v q1 q0 N f = some res)
    (k : ∀ v : sV, f v = some res → ∀ (H : Heap) (locs : List Loc), sB D G A H0 ad r v n x H locs → W p l e R s m args below meth c H locs cells slots Q (F0 m (pc + 3) ls rest)) : W p l e R s m args below meth c H locs cells slots Q (F0 m pc ls (.int nn :: .int 0 :: .ref (ad q1) :: .int 0 :: .ref (ad q0) :: rest)) := by
  have z0 : (0 : Int32).toNatClampNeg = 0 := rfl
  have hc9 : va_cpy (v q0) (v q1) (0 : Int32).toNatClampNeg (0 : Int32).toNatClampNeg nn.toNatClampNeg = cpv v q1 q0 N q1 := by
    funext j
    simp only [va_cpy, cpv, z0, hnn, Nat.zero_le, true_and, Nat.zero_add, Nat.sub_zero]
  have hset : (sWl G ad r v n x).set (sIx r q1) (ad q1, .inl (G 0, N, .inl (va_cpy (v q0) (v q1) (0 : Int32).toNatClampNeg (0 : Int32).toNatClampNeg nn.toNatClampNeg))) = sWl G ad r (cpv v q1 q0 N) n x := by
    refine sWl_set hq1 (fun _ _ => Iff.rfl) ?_ (fun q' _ h' => sC_ne rfl (by funext j; simp [cpv, h']))
    rw [hc9]
    simp [sC, hk1]
  refine va_copyi (D := D) E.1 E.2.1 (E.2.2.1.trans hl.symm) E.2.2.2.1 (E.2.2.2.2 _ hlink) (E.2.2.2.2 _ hnat) (E.2.2.2.2 _ hstat) (E.2.2.2.2 _ hini) hU.1 hB.1 hB.2.1 hB.2.2 (sIx r q0) (sIx r q1) 0 0 (c0 := G 0) (c1 := G 0) (n0 := N) (n1 := N) (f := v q0) (g := v q1) (ty := .int) (by rw [sWl_get hq0]; simp [sC, hk0]) (by rw [sWl_get hq1]; simp [sC, hk1]) rfl rfl rfl (by decide) (by decide) hn3 (by rw [hnn, z0]; omega) (by rw [hnn, z0]; omega) (fun i _ => rfl) hfr hlo hdg (fun H1 locs1 h1 h2 h3 => ?_)
  rw [hset] at h1 h2
  exact k _ hf H1 locs1 ⟨h1, h2, h3⟩
end SCX
