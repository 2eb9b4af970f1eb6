def fx9 {a1 a2 a3 a4 a5 a6 a7 a8 a9 ρ : Type} (F : (a1 → a2 → a3 → a4 → a5 → a6 → a7 → a8 → a9 → Option ρ) → a1 → a2 → a3 → a4 → a5 → a6 → a7 → a8 → a9 → Option ρ) : Nat → a1 → a2 → a3 → a4 → a5 → a6 → a7 → a8 → a9 → Option ρ
  | 0 => fun _ _ _ _ _ _ _ _ _ => none
  | k + 1 => F (fx9 F k)
theorem fx9_z {a1 a2 a3 a4 a5 a6 a7 a8 a9 ρ : Type} {F : (a1 → a2 → a3 → a4 → a5 → a6 → a7 → a8 → a9 → Option ρ) → a1 → a2 → a3 → a4 → a5 → a6 → a7 → a8 → a9 → Option ρ} {x1 : a1} {x2 : a2} {x3 : a3} {x4 : a4} {x5 : a5} {x6 : a6} {x7 : a7} {x8 : a8} {x9 : a9} {y : ρ} {P : Prop} (h : fx9 F 0 x1 x2 x3 x4 x5 x6 x7 x8 x9 = some y) : P := by cases h
def fx8 {a1 a2 a3 a4 a5 a6 a7 a8 ρ : Type} (F : (a1 → a2 → a3 → a4 → a5 → a6 → a7 → a8 → Option ρ) → a1 → a2 → a3 → a4 → a5 → a6 → a7 → a8 → Option ρ) : Nat → a1 → a2 → a3 → a4 → a5 → a6 → a7 → a8 → Option ρ
  | 0 => fun _ _ _ _ _ _ _ _ => none
  | k + 1 => F (fx8 F k)
theorem fx8_z {a1 a2 a3 a4 a5 a6 a7 a8 ρ : Type} {F : (a1 → a2 → a3 → a4 → a5 → a6 → a7 → a8 → Option ρ) → a1 → a2 → a3 → a4 → a5 → a6 → a7 → a8 → Option ρ} {x1 : a1} {x2 : a2} {x3 : a3} {x4 : a4} {x5 : a5} {x6 : a6} {x7 : a7} {x8 : a8} {y : ρ} {P : Prop} (h : fx8 F 0 x1 x2 x3 x4 x5 x6 x7 x8 = some y) : P := by cases h
def fx7 {a1 a2 a3 a4 a5 a6 a7 ρ : Type} (F : (a1 → a2 → a3 → a4 → a5 → a6 → a7 → Option ρ) → a1 → a2 → a3 → a4 → a5 → a6 → a7 → Option ρ) : Nat → a1 → a2 → a3 → a4 → a5 → a6 → a7 → Option ρ
  | 0 => fun _ _ _ _ _ _ _ => none
  | k + 1 => F (fx7 F k)
theorem fx7_z {a1 a2 a3 a4 a5 a6 a7 ρ : Type} {F : (a1 → a2 → a3 → a4 → a5 → a6 → a7 → Option ρ) → a1 → a2 → a3 → a4 → a5 → a6 → a7 → Option ρ} {x1 : a1} {x2 : a2} {x3 : a3} {x4 : a4} {x5 : a5} {x6 : a6} {x7 : a7} {y : ρ} {P : Prop} (h : fx7 F 0 x1 x2 x3 x4 x5 x6 x7 = some y) : P := by cases h
/-! what is made: a place more; counts go up -/
def rz (r : sR) (n : Nat) : sR := fun p j => if p = n then 0 else r p j
def vz (v : sV) (n : Nat) : sV := fun p j => if p = n then 0 else v p j
noncomputable def ck {β : Type} (P : Prop) (o : Option β) : Option β := @ite _ P (Classical.propDecidable P) o none
theorem ck_e {β : Type} {P : Prop} {o : Option β} {y : β} (h : ck P o = some y) : P ∧ o = some y := by
  unfold ck at h
  split at h
  · exact ⟨by assumption, h⟩
  · cases h
theorem ck_i {β : Type} {P : Prop} {o : Option β} (h : P) : ck P o = o := by
  unfold ck
  exact if_pos h
/-- the count of what a part made, added to what follows -/
def ac {α β : Type} (q : α × sR × sV × Nat) (n : Nat) (f : α → sR → sV → Nat → Option (β × sR × sV × Nat)) : Option (β × sR × sV × Nat) := (f q.1 q.2.1 q.2.2.1 (n + q.2.2.2)).map (fun z => (z.1, z.2.1, z.2.2.1, q.2.2.2 + z.2.2.2))
def fz {β : Type} (n : Nat) (z : β × sR × sV × Nat) : β × sR × sV × Nat := (z.1, z.2.1, z.2.2.1, n + z.2.2.2)
theorem ac_e {α β : Type} {q : α × sR × sV × Nat} {n : Nat} {f : α → sR → sV → Nat → Option (β × sR × sV × Nat)} {z : β × sR × sV × Nat} (h : ac q n f = some z) : ∃ z1, f q.1 q.2.1 q.2.2.1 (n + q.2.2.2) = some z1 ∧ fz n z = fz (n + q.2.2.2) z1 := by
  unfold ac at h
  cases h1 : f q.1 q.2.1 q.2.2.1 (n + q.2.2.2) with
  | none => rw [h1] at h; cases h
  | some z1 =>
    rw [h1] at h
    cases h
    exact ⟨z1, rfl, by simp [fz, Nat.add_assoc]⟩
/-- a new place of a kind: all that is there is null and 0 -/
def nw {β : Type} (r : sR) (v : sV) (n : Nat) (f : sR → sV → Nat → Option (β × sR × sV × Nat)) : Option (β × sR × sV × Nat) := ac ((), rz r n, vz v n, 1) n (fun _ => f)
def sS : (Nat → Nat) → Nat → Nat
  | _, 0 => 0
  | g, n + 1 => sS g n + g n
theorem sS_le {g : Nat → Nat} {a b : Nat} (h : a ≤ b) : sS g a ≤ sS g b := by
  induction h with
  | refl => exact Nat.le_refl _
  | step _ ih => exact Nat.le_trans ih (Nat.le_add_right _ _)
def ldF {β : Type} (r : sR) (i : Int32) (f0 : Option β) (f1 : Nat → Option β) : Option β := if 0 ≤ i.toInt ∧ i.toInt < 140 then (match r 15 i.toNatClampNeg with | 0 => f0 | q + 1 => f1 q) else none
def inR (i : Int32) (N : Nat) : Prop := 0 ≤ i.toInt ∧ i.toInt < N
def wf (r : sR) (n : Nat) : Prop := ∀ p k, p < n → r p k ≤ n
/-! METHODS THAT MAKE: the world grows; the places that were there keep their addresses -/
def sz (n : Nat) : Nat := sS (fun p => (sks p).2) n
theorem sz_le {a b : Nat} (h : a ≤ b) : sz a ≤ sz b := sS_le h
theorem sz_1 (n : Nat) : sz (n + 1) = sz n + (sks n).2 := rfl
def sGo (r : sR) (n : Nat) (ad : Nat → Nat) (r' : sR) (n' : Nat) (ad' : Nat → Nat) : Prop := n ≤ n' ∧ ∀ p, lv r n p → lv r' n' p ∧ ad' p = ad p
theorem sGo.rf {r : sR} {n : Nat} {ad : Nat → Nat} : sGo r n ad r n ad := ⟨Nat.le_refl _, fun _ h => ⟨h, rfl⟩⟩
theorem sGo.trans {r r1 r2 : sR} {n n1 n2 : Nat} {ad ad1 ad2 : Nat → Nat} (h : sGo r n ad r1 n1 ad1) (h2 : sGo r1 n1 ad1 r2 n2 ad2) : sGo r n ad r2 n2 ad2 := ⟨Nat.le_trans h.1 h2.1, fun p hp => ⟨(h2.2 p (h.2 p hp).1).1, (h2.2 p (h.2 p hp).1).2.trans (h.2 p hp).2⟩⟩
/-- the marks stay -/
theorem sGo_r2 {r : sR} {n : Nat} {ad : Nat → Nat} {p i y : Nat} (hi : i ≠ gI) : sGo r n ad (r2 r p i y) n ad := ⟨Nat.le_refl _, fun q h => ⟨⟨h.1, by rw [r2_gI hi]; exact h.2⟩, rfl⟩⟩
def sE (D : va_G) (G : Nat → ClassId) (ad : Nat → Nat) (r : sR) (n : Nat) (x : Int64 × UInt64) (sz0 : Nat) (r' : sR) (v' : sV) (n' : Nat) (ad' : Nat → Nat) (t : State) : Prop := va_P D vwCl (sWl G ad' r' v' n' x) t.heap ∧ va_D (sA ad r n sz0) (sWl G ad' r' v' n' x)
def sQAi (D : va_G) (G : Nat → ClassId) (ad : Nat → Nat) (r : sR) (n : Nat) (x : Int64 × UInt64) (sz0 : Nat) (fin : Int32 × sR × sV × Nat) : Array Value → State → Outcome → State → Prop := va_Qi (fun (q : Int32) (ad' : Nat → Nat) => q = fin.1 ∧ sGo r n ad fin.2.1 fin.2.2.2 ad') (fun ad' t => sE D G ad r n x sz0 fin.2.1 fin.2.2.1 fin.2.2.2 ad' t) (sA ad r n sz0)
def sQAv (D : va_G) (G : Nat → ClassId) (ad : Nat → Nat) (r : sR) (n : Nat) (x : Int64 × UInt64) (sz0 : Nat) (fin : Unit × sR × sV × Nat) : Array Value → State → Outcome → State → Prop := va_Qv (fun (ad' : Nat → Nat) => sGo r n ad fin.2.1 fin.2.2.2 ad') (fun ad' t => sE D G ad r n x sz0 fin.2.1 fin.2.2.1 fin.2.2.2 ad' t) (sA ad r n sz0)
def sQAr (D : va_G) (G : Nat → ClassId) (ad : Nat → Nat) (r : sR) (n : Nat) (x : Int64 × UInt64) (sz0 : Nat) (fin : Nat × sR × sV × Nat) : Array Value → State → Outcome → State → Prop := va_Qr (fun (ad' : Nat → Nat) => sGo r n ad fin.2.1 fin.2.2.2 ad') (fun ad' a t => a = ad' fin.1 ∧ sE D G ad r n x sz0 fin.2.1 fin.2.2.1 fin.2.2.2 ad' t) (sA ad r n sz0)
def sMAi (l : Launch) (y : MethodName) (ws : List Cond) (rm : Nat → Nat → Room) (D : va_G) (G : Nat → ClassId) (ad : Nat → Nat) (r : sR) (v : sV) (n : Nat) (x : Int64 × UInt64) (av : List Value) (o : Option (Int32 × sR × sV × Nat)) : Prop :=
  ∀ (sz0 : Nat) (q0 : Int32 × sR × sV × Nat), o = some q0 → Met l y ws (rm ((fz n q0).2.2.2 - n) (sz (fz n q0).2.2.2 - sz n)) (sPW D G ad r v n x sz0 av) (sQAi D G ad r n x sz0 (fz n q0)) ((fz n q0).2.2.2 - n) (sz (fz n q0).2.2.2 - sz n) (sA ad r n sz0)
def sMAv (l : Launch) (y : MethodName) (ws : List Cond) (rm : Nat → Nat → Room) (D : va_G) (G : Nat → ClassId) (ad : Nat → Nat) (r : sR) (v : sV) (n : Nat) (x : Int64 × UInt64) (av : List Value) (o : Option (Unit × sR × sV × Nat)) : Prop :=
  ∀ (sz0 : Nat) (q0 : Unit × sR × sV × Nat), o = some q0 → Met l y ws (rm ((fz n q0).2.2.2 - n) (sz (fz n q0).2.2.2 - sz n)) (sPW D G ad r v n x sz0 av) (sQAv D G ad r n x sz0 (fz n q0)) ((fz n q0).2.2.2 - n) (sz (fz n q0).2.2.2 - sz n) (sA ad r n sz0)
def sMAr (l : Launch) (y : MethodName) (ws : List Cond) (rm : Nat → Nat → Room) (D : va_G) (G : Nat → ClassId) (ad : Nat → Nat) (r : sR) (v : sV) (n : Nat) (x : Int64 × UInt64) (av : List Value) (o : Option (Nat × sR × sV × Nat)) : Prop :=
  ∀ (sz0 : Nat) (q0 : Nat × sR × sV × Nat), o = some q0 → Met l y ws (rm ((fz n q0).2.2.2 - n) (sz (fz n q0).2.2.2 - sz n)) (sPW D G ad r v n x sz0 av) (sQAr D G ad r n x sz0 (fz n q0)) ((fz n q0).2.2.2 - n) (sz (fz n q0).2.2.2 - sz n) (sA ad r n sz0)
def sOkI (y : MethodName) (bytes : ByteArray) (maxL n : Nat) : Prop := sOk y bytes maxL none n ∧ Cond.instanceMethod y ∈ wsL_law ∧ y.name = "<init>"
theorem cwGI {R rm : Room} {s : State} {args : Array Value} {own : String} {index maxL mc ms : Nat} {y : MethodName} {bytes : ByteArray} (n : Nat) (ok : sOkI y bytes maxL n) (hl : Cond.methodLink own index y ∈ wsL_law) (hts : ∀ w ∈ wsL_law, w.before args s = true) (hrc : rm.cells = mc) (hrs : rm.slots = ms) (hR : rm.frames + 1 ≤ R.frames ∧ 8 + (maxL + 11) + rm.locals ≤ R.locals) :
    CallB R s args own index y bytes maxL none (Cond.code y bytes maxL none :: wsL_law) rm mc ms n ∧ y.name = "<init>" ∧ (Cond.instanceMethod y).before args s = true :=
  ⟨callB_of n hts (goodG ok.1.1 goodL) rfl hrc hrs (hts _ ok.1.2.1) (hts _ hl) ok.1.2.2 hR, ok.2.2, hts _ ok.2.1⟩
theorem cwGIN {R rm : Room} {s : State} {args : Array Value} {own host : String} {index maxL mc ms : Nat} {y : MethodName} {bytes : ByteArray} (n : Nat) (ok : sOkI y bytes maxL n) (hl : va_Nw (.methodLinkNest own index y host) s) (hts : ∀ w ∈ wsL_law, w.before args s = true) (hrc : rm.cells = mc) (hrs : rm.slots = ms) (hR : rm.frames + 1 ≤ R.frames ∧ 8 + (maxL + 11) + rm.locals ≤ R.locals) :
    va_CN R s args own index y host bytes maxL none (Cond.code y bytes maxL none :: wsL_law) rm mc ms n ∧ y.name = "<init>" ∧ (Cond.instanceMethod y).before args s = true :=
  ⟨va_cnB n hts (goodG ok.1.1 goodL) rfl hrc hrs hl (hts _ ok.1.2.1) ok.1.2.2 hR, ok.2.2, hts _ ok.2.1⟩
theorem nm_e2 {α β : Type} {a : α} {f : α → Option β} {y : β} (h : nm a f = some y) : f a = some y := h
section SAL
variable {p : Program} {l : Launch} {e : Env} {R : Room} {s : State} {m : MethodId} {args : Array Value} {below : List Frame} {meth : Method} {c : Code} {H : Heap} {locs : List Loc} {cells slots : Nat} {Q : State → Prop} {pc : Nat} {ls : Array Slot} {rest st0 As : List Value} {cc : ByteArray} {nL : Nat} {own : String}
variable {D : va_G} {G : Nat → ClassId} {A : Nat → Prop} {H0 : Heap} {ad ad0 : Nat → Nat} {r r0 : sR} {v : sV} {n n0 : Nat} {x : Int64 × UInt64} {ρ β : Type} {res : ρ} {rez fin : β × sR × sV × Nat}
variable {y : MethodName} {bytes : ByteArray} {maxL index k : Nat} {ret : Option FieldType} {ws : List Cond} {rm : Room}
/-- what was made so far is within the whole -/
theorem aC (he : fin = fz n rez) {mc ms : Nat} (h1 : fin.2.2.2 - n0 ≤ mc) (h2 : sz fin.2.2.2 - sz n0 ≤ ms) : n - n0 ≤ mc ∧ sz n - sz n0 ≤ ms := by
  have h3 : n ≤ fin.2.2.2 := by rw [he]; exact Nat.le_add_right _ _
  have h4 := sz_le h3
  omega
theorem rV_A (E : CallFix p m c cc nL s args wsL_law own) (hU : sU D G s) (hB : sB D G A H0 ad r v n x H locs) {q ci N mc ms : Nat} {C : String} {T : u_T} {ty : Nat → FieldType} (hcl : sCls ci C T N ty) (hq : lv r n q) (hk : sks q = (ci, N)) {Qc : Array Value → State → Outcome → State → Prop} (M : Met l y ws rm (sPW D G ad r v n x H.size (.ref (ad q) :: As)) Qc mc ms (sA ad r n H.size)) (cw : CallW R s args own C index y bytes maxL ret ws rm mc ms k) (hn : As.length = k) (hl : ls.size = nL) (hst : (rest.map fun v => v.category).sum ≤ 8) (hdg : decode cc pc = .ok (.invokevirtual index, 3)) (hc : cells + mc ≤ R.cells ∧ slots + ms ≤ R.slots) (hs : st0 = As.reverse ++ .ref (ad q) :: rest) :
    va_Run p l e R s m args below meth c H locs cells slots mc ms (F0 m pc ls st0) rest (Qc (Value.ref (ad q) :: As).toArray) (sA ad r n H.size) :=
  va_runV E M cw ⟨fb_W, s_recv hU hB.1 hcl hq hk, fun U hU1 hW => ⟨rfl, by rw [hU1], hU.warm hW, by rw [hU1]; exact hB.1, ⟨hB.2.1.1, fun _ _ _ => trivial⟩⟩⟩ rfl hn hl hs (lv_room hst) hdg hc
theorem rI_A (E : CallFix p m c cc nL s args wsL_law own) (hU : sU D G s) (hB : sB D G A H0 ad r v n x H locs) {q mc ms : Nat} {Qc : Array Value → State → Outcome → State → Prop} (M : Met l y ws rm (sPW D G ad r v n x H.size (.ref (ad q) :: As)) Qc mc ms (sA ad r n H.size)) (cw : CallB R s args own index y bytes maxL none ws rm mc ms k ∧ y.name = "<init>" ∧ (Cond.instanceMethod y).before args s = true) (hn : As.length = k) (hl : ls.size = nL) (hst : (rest.map fun v => v.category).sum ≤ 8) (hdg : decode cc pc = .ok (.invokespecial index, 3)) (hc : cells + mc ≤ R.cells ∧ slots + ms ≤ R.slots) (hs : st0 = As.reverse ++ .ref (ad q) :: rest) :
    va_Run p l e R s m args below meth c H locs cells slots mc ms (F0 m pc ls st0) rest (Qc (Value.ref (ad q) :: As).toArray) (sA ad r n H.size) :=
  va_runI E M cw ⟨fb_W, fun U hU1 hW => ⟨rfl, by rw [hU1], hU.warm hW, by rw [hU1]; exact hB.1, ⟨hB.2.1.1, fun _ _ _ => trivial⟩⟩⟩ rfl hn hl hs (lv_room hst) hdg hc
theorem rIN_A (E : CallFix p m c cc nL s args wsL_law own) (hU : sU D G s) (hB : sB D G A H0 ad r v n x H locs) {q mc ms : Nat} {host : String} {Qc : Array Value → State → Outcome → State → Prop} (M : Met l y ws rm (sPW D G ad r v n x H.size (.ref (ad q) :: As)) Qc mc ms (sA ad r n H.size)) (cw : va_CN R s args own index y host bytes maxL none ws rm mc ms k ∧ y.name = "<init>" ∧ (Cond.instanceMethod y).before args s = true) (hn : As.length = k) (hl : ls.size = nL) (hst : (rest.map fun v => v.category).sum ≤ 8) (hdg : decode cc pc = .ok (.invokespecial index, 3)) (hc : cells + mc ≤ R.cells ∧ slots + ms ≤ R.slots) (hs : st0 = As.reverse ++ .ref (ad q) :: rest) :
    va_Run p l e R s m args below meth c H locs cells slots mc ms (F0 m pc ls st0) rest (Qc (Value.ref (ad q) :: As).toArray) (sA ad r n H.size) :=
  va_runIN E M cw ⟨fb_W, fun U hU1 hW => ⟨rfl, by rw [hU1], hU.warm hW, by rw [hU1]; exact hB.1, ⟨hB.2.1.1, fun _ _ _ => trivial⟩⟩⟩ rfl hn hl hs (lv_room hst) hdg hc
/-- behind a call that makes: a number -/
theorem sc_Ai (hB : sB D G A H0 ad r v n x H locs) (hA0 : ∀ q, H0.size ≤ q → A q) (h0 : n0 ≤ n) (hRc : fin.2.2.2 - n0 ≤ R.cells ∧ sz fin.2.2.2 - sz n0 ≤ R.slots) {o : Option (Int32 × sR × sV × Nat)} {f : Int32 → sR → sV → Nat → Option (β × sR × sV × Nat)} {a : Array Value} (hf : o.bind (fun q => ac q n f) = some rez) (he : fin = fz n rez)
    (hr : ∀ q0, o = some q0 → (n - n0) + ((fz n q0).2.2.2 - n) ≤ R.cells ∧ (sz n - sz n0) + (sz (fz n q0).2.2.2 - sz n) ≤ R.slots → va_Run p l e R s m args below meth c H locs (n - n0) (sz n - sz n0) ((fz n q0).2.2.2 - n) (sz (fz n q0).2.2.2 - sz n) (F0 m pc ls st0) rest (sQAi D G ad r n x H.size (fz n q0) a) (sA ad r n H.size))
    (kk : ∀ (y : Int32) (r1 : sR) (v1 : sV) (n1 : Nat) (rez : β × sR × sV × Nat), f y r1 v1 n1 = some rez → fin = fz n1 rez → ∀ ad1 : Nat → Nat, sGo r n ad r1 n1 ad1 → n0 ≤ n1 → ∀ (H : Heap) (locs : List Loc), sB D G A H0 ad1 r1 v1 n1 x H locs → W p l e R s m args below meth c H locs (n1 - n0) (sz n1 - sz n0) Q (F0 m (pc + 3) ls (.int y :: rest))) : W p l e R s m args below meth c H locs (n - n0) (sz n - sz n0) Q (F0 m pc ls st0) := by
  obtain ⟨q0, h1, hf⟩ := bi_e hf
  obtain ⟨z1, hf, h2⟩ := ac_e hf
  have he1 := he.trans h2
  have h3 : n ≤ n + q0.2.2.2 := Nat.le_add_right _ _
  have h4 : n + q0.2.2.2 ≤ fin.2.2.2 := by rw [he1]; exact Nat.le_add_right _ _
  have h5 := sz_le h3
  have h6 := sz_le h4
  have h7 := sz_le h0
  have e1 : (fz n q0).2.2.2 = n + q0.2.2.2 := rfl
  refine va_calli (hr q0 h1 (by rw [e1]; omega)) hB.2.2 (fun q _ h => sA_in hB hA0 q h) (sA_in hB hA0) (fun r1 ad1 t H1 locs1 ht hvm hw hb hz hk hS => ?_)
  obtain ⟨hw, hgo⟩ := hw
  subst hw
  have e2 : (n - n0) + ((fz n q0).2.2.2 - n) = n + q0.2.2.2 - n0 := by rw [e1]; omega
  have e3 : (sz n - sz n0) + (sz (fz n q0).2.2.2 - sz n) = sz (n + q0.2.2.2) - sz n0 := by rw [e1]; omega
  rw [e2, e3]
  refine kk _ _ _ _ _ hf he1 ad1 hgo (Nat.le_trans h0 h3) H1 locs1 ⟨by rw [← ht]; exact hb.1, ⟨hb.2.1, fun k q h => sA_in hB hA0 _ (hb.2.2 k q h)⟩, hS⟩
theorem sc_Av (hB : sB D G A H0 ad r v n x H locs) (hA0 : ∀ q, H0.size ≤ q → A q) (h0 : n0 ≤ n) (hRc : fin.2.2.2 - n0 ≤ R.cells ∧ sz fin.2.2.2 - sz n0 ≤ R.slots) {o : Option (Unit × sR × sV × Nat)} {f : Unit → sR → sV → Nat → Option (β × sR × sV × Nat)} {a : Array Value} (hf : o.bind (fun q => ac q n f) = some rez) (he : fin = fz n rez)
    (hr : ∀ q0, o = some q0 → (n - n0) + ((fz n q0).2.2.2 - n) ≤ R.cells ∧ (sz n - sz n0) + (sz (fz n q0).2.2.2 - sz n) ≤ R.slots → va_Run p l e R s m args below meth c H locs (n - n0) (sz n - sz n0) ((fz n q0).2.2.2 - n) (sz (fz n q0).2.2.2 - sz n) (F0 m pc ls st0) rest (sQAv D G ad r n x H.size (fz n q0) a) (sA ad r n H.size))
    (kk : ∀ (r1 : sR) (v1 : sV) (n1 : Nat) (rez : β × sR × sV × Nat), f () r1 v1 n1 = some rez → fin = fz n1 rez → ∀ ad1 : Nat → Nat, sGo r n ad r1 n1 ad1 → n0 ≤ n1 → ∀ (H : Heap) (locs : List Loc), sB D G A H0 ad1 r1 v1 n1 x H locs → W p l e R s m args below meth c H locs (n1 - n0) (sz n1 - sz n0) Q (F0 m (pc + 3) ls rest)) : W p l e R s m args below meth c H locs (n - n0) (sz n - sz n0) Q (F0 m pc ls st0) := by
  obtain ⟨q0, h1, hf⟩ := bi_e hf
  obtain ⟨z1, hf, h2⟩ := ac_e hf
  have he1 := he.trans h2
  have h3 : n ≤ n + q0.2.2.2 := Nat.le_add_right _ _
  have h4 : n + q0.2.2.2 ≤ fin.2.2.2 := by rw [he1]; exact Nat.le_add_right _ _
  have h5 := sz_le h3
  have h6 := sz_le h4
  have h7 := sz_le h0
  have e1 : (fz n q0).2.2.2 = n + q0.2.2.2 := rfl
  refine va_callv (hr q0 h1 (by rw [e1]; omega)) hB.2.2 (fun q _ h => sA_in hB hA0 q h) (sA_in hB hA0) (fun ad1 t H1 locs1 ht hvm hw hb hz hk hS => ?_)
  have e2 : (n - n0) + ((fz n q0).2.2.2 - n) = n + q0.2.2.2 - n0 := by rw [e1]; omega
  have e3 : (sz n - sz n0) + (sz (fz n q0).2.2.2 - sz n) = sz (n + q0.2.2.2) - sz n0 := by rw [e1]; omega
  rw [e2, e3]
  refine kk _ _ _ _ hf he1 ad1 hw (Nat.le_trans h0 h3) H1 locs1 ⟨by rw [← ht]; exact hb.1, ⟨hb.2.1, fun k q h => sA_in hB hA0 _ (hb.2.2 k q h)⟩, hS⟩
theorem sc_Ar (hB : sB D G A H0 ad r v n x H locs) (hA0 : ∀ q, H0.size ≤ q → A q) (h0 : n0 ≤ n) (hRc : fin.2.2.2 - n0 ≤ R.cells ∧ sz fin.2.2.2 - sz n0 ≤ R.slots) {o : Option (Nat × sR × sV × Nat)} {f : Nat → sR → sV → Nat → Option (β × sR × sV × Nat)} {a : Array Value} (hf : o.bind (fun q => ac q n f) = some rez) (he : fin = fz n rez)
    (hr : ∀ q0, o = some q0 → (n - n0) + ((fz n q0).2.2.2 - n) ≤ R.cells ∧ (sz n - sz n0) + (sz (fz n q0).2.2.2 - sz n) ≤ R.slots → va_Run p l e R s m args below meth c H locs (n - n0) (sz n - sz n0) ((fz n q0).2.2.2 - n) (sz (fz n q0).2.2.2 - sz n) (F0 m pc ls st0) rest (sQAr D G ad r n x H.size (fz n q0) a) (sA ad r n H.size))
    (kk : ∀ (y : Nat) (r1 : sR) (v1 : sV) (n1 : Nat) (rez : β × sR × sV × Nat), f y r1 v1 n1 = some rez → fin = fz n1 rez → ∀ ad1 : Nat → Nat, sGo r n ad r1 n1 ad1 → n0 ≤ n1 → ∀ (H : Heap) (locs : List Loc), sB D G A H0 ad1 r1 v1 n1 x H locs → W p l e R s m args below meth c H locs (n1 - n0) (sz n1 - sz n0) Q (F0 m (pc + 3) ls (.ref (ad1 y) :: rest))) : W p l e R s m args below meth c H locs (n - n0) (sz n - sz n0) Q (F0 m pc ls st0) := by
  obtain ⟨q0, h1, hf⟩ := bi_e hf
  obtain ⟨z1, hf, h2⟩ := ac_e hf
  have he1 := he.trans h2
  have h3 : n ≤ n + q0.2.2.2 := Nat.le_add_right _ _
  have h4 : n + q0.2.2.2 ≤ fin.2.2.2 := by rw [he1]; exact Nat.le_add_right _ _
  have h5 := sz_le h3
  have h6 := sz_le h4
  have h7 := sz_le h0
  have e1 : (fz n q0).2.2.2 = n + q0.2.2.2 := rfl
  refine va_callr (hr q0 h1 (by rw [e1]; omega)) hB.2.2 (fun q _ h => sA_in hB hA0 q h) (sA_in hB hA0) (fun ad1 ra t H1 locs1 ht hvm hw hb hz hk hS => ?_)
  obtain ⟨hra, hb⟩ := hb
  subst hra
  have e2 : (n - n0) + ((fz n q0).2.2.2 - n) = n + q0.2.2.2 - n0 := by rw [e1]; omega
  have e3 : (sz n - sz n0) + (sz (fz n q0).2.2.2 - sz n) = sz (n + q0.2.2.2) - sz n0 := by rw [e1]; omega
  rw [e2, e3]
  refine kk _ _ _ _ _ hf he1 ad1 hw (Nat.le_trans h0 h3) H1 locs1 ⟨by rw [← ht]; exact hb.1, ⟨hb.2.1, fun k q h => sA_in hB hA0 _ (hb.2.2 k q h)⟩, hS⟩
/-- other addresses, where no reference leads -/
theorem sC_ad {G : Nat → ClassId} {ad ad' : Nat → Nat} {r : sR} {v : sV} {x : Int64 × UInt64} {p : Nat} (h : ∀ k, rv ad' (r p k) = rv ad (r p k) ∧ ro ad' (r p k) = ro ad (r p k)) : sC G ad' r v x p = sC G ad r v x p := by
  unfold sC
  have e1 : sFs ad' (r p) (v p) (sFl (sks p).1) = sFs ad (r p) (v p) (sFl (sks p).1) := by
    unfold sFs
    congr 1
    funext k
    unfold sF1
    rw [(h k).1]
  have e2 : (fun i => ro ad' (r p i)) = (fun i => ro ad (r p i)) := by
    funext i
    exact (h i).2
  rw [e1, e2]
theorem rv_up {ad : Nat → Nat} {pl q k : Nat} (h : k ≠ pl + 1) : rv (va_up ad pl q) k = rv ad k ∧ ro (va_up ad pl q) k = ro ad k := by
  cases k with
  | zero => exact ⟨rfl, rfl⟩
  | succ j =>
    have : (va_up ad pl q) j = ad j := by unfold va_up; rw [if_neg (by omega)]
    exact ⟨by simp [rv, this], by simp [ro, this]⟩
theorem rz_n {r : sR} {n j : Nat} : rz r n n j = 0 := if_pos rfl
theorem rz_row {r : sR} {n p : Nat} (h : p ≠ n) : rz r n p = r p := by
  funext k
  exact if_neg h
theorem vz_row {v : sV} {n p : Nat} (h : p ≠ n) : vz v n p = v p := by
  funext k
  exact if_neg h
/-- the world, a place longer -/
theorem sWl_push {G : Nat → ClassId} {ad : Nat → Nat} {r : sR} {v : sV} {n : Nat} {x : Int64 × UInt64} (hw : wf r n) {q : Nat} {e : va_E} (he : e = sC G ad (rz r n) (vz v n) x n) : sWl G ad r v n x ++ [(q, e)] = sWl G (va_up ad n q) (rz r n) (vz v n) (n + 1) x := by
  have hc : ∀ p, p ≤ n → sC G (va_up ad n q) (rz r n) (vz v n) x p = sC G ad (rz r n) (vz v n) x p := by
    intro p hp
    refine sC_ad (fun k => rv_up ?_)
    by_cases hpn : p = n
    · rw [hpn, rz_n]; omega
    · rw [rz_row hpn]
      have := hw p k (by omega)
      omega
  unfold sWl
  rw [sLs_succ, if_pos rz_n, List.map_append, sLs_c (r := r) (r' := rz r n) (fun q hq => by rw [rz_row (by omega)])]
  congr 1
  · apply List.map_congr_left
    intro p hp
    obtain ⟨k, hk⟩ := List.getElem?_of_mem hp
    have hp : p < n := (sLs_out hk).1.1
    have e1 : (va_up ad n q) p = ad p := by unfold va_up; rw [if_neg (by omega)]
    rw [e1, hc p (by omega), sC_ne (rz_row (by omega)) (vz_row (by omega))]
  · simp only [List.map_cons, List.map_nil]
    rw [hc n (Nat.le_refl n), ← he]
    simp [va_up]
/-! places that were left out come to life: what they cost is counted by two places that stay without life -/
def rvo (r : sR) (n pl : Nat) : Prop := 172 ≤ n ∧ pl < n ∧ r pl gI ≠ 0 ∧ ∀ p k, lv r n p → r p k ≠ pl + 1
def rrv (r : sR) (n pl : Nat) : sR := fun p j => if p = pl then 0 else if p = n ∨ p = n + 1 then 1 else r p j
def nb {β : Type} (r : sR) (v : sV) (n pl : Nat) (f : sR → sV → Nat → Option (β × sR × sV × Nat)) : Option (β × sR × sV × Nat) := ac ((), rrv r n pl, vz v pl, 2) n (fun _ => f)
/-- the ring's places are left out at first -/
def rj (r : sR) : sR := fun p j => if 37 ≤ p ∧ p < 141 then 1 else r p j
theorem rrv_pl {r : sR} {n pl j : Nat} : rrv r n pl pl j = 0 := if_pos rfl
theorem rrv_row {r : sR} {n pl p : Nat} (h : p ≠ pl) (h2 : p < n) : rrv r n pl p = r p := by
  funext k
  unfold rrv
  rw [if_neg h, if_neg (by omega)]
theorem rrv_lv {r : sR} {n pl p : Nat} (h : lv (rrv r n pl) (n + 2) p) : p = pl ∨ (p ≠ pl ∧ lv r n p) := by
  obtain ⟨h1, h2⟩ := h
  by_cases hp : p = pl
  · exact Or.inl hp
  · unfold rrv at h2
    rw [if_neg hp] at h2
    by_cases h3 : p = n ∨ p = n + 1
    · rw [if_pos h3] at h2
      cases h2
    · rw [if_neg h3] at h2
      exact Or.inr ⟨hp, by omega, h2⟩
theorem sW_rev {D : va_G} {G : Nat → ClassId} {A : Nat → Prop} {H : Heap} {ad : Nat → Nat} {r : sR} {v : sV} {n : Nat} {x : Int64 × UInt64} {pl q : Nat} {e : va_E} (ho : rvo r n pl) (he : e = sC G ad (rrv r n pl) (vz v pl) x pl) (hP : va_P D vwCl (sWl G ad r v n x ++ [(q, e)]) H) (hD : va_D A (sWl G ad r v n x ++ [(q, e)])) :
    va_P D vwCl (sWl G (va_up ad pl q) (rrv r n pl) (vz v pl) (n + 2) x) H ∧ va_D A (sWl G (va_up ad pl q) (rrv r n pl) (vz v pl) (n + 2) x) := by
  have hlt : ∀ p, lv r n p → sIx r p < (sWl G ad r v n x).length := fun p hp => (List.getElem?_eq_some_iff.mp (sWl_get (G := G) (ad := ad) (v := v) (x := x) hp)).1
  have hK : ∀ p, lv (rrv r n pl) (n + 2) p → (sWl G ad r v n x ++ [(q, e)])[if p = pl then (sWl G ad r v n x).length else sIx r p]? = some (va_up ad pl q p, sC G (va_up ad pl q) (rrv r n pl) (vz v pl) x p) := by
    intro p hp
    rcases rrv_lv hp with rfl | ⟨h1, h2⟩
    · rw [if_pos rfl, List.getElem?_append_right (Nat.le_refl _), Nat.sub_self, he, sC_ad (ad' := va_up ad p q) (fun k => rv_up (by rw [rrv_pl]; omega))]
      simp [va_up]
    · rw [if_neg h1, List.getElem?_append_left (hlt p h2), sWl_get h2, sC_ad (ad' := va_up ad pl q) (ad := ad) (fun k => rv_up (by rw [rrv_row h1 h2.1]; exact ho.2.2.2 p k h2)), sC_ne (rrv_row h1 h2.1) (vz_row h1)]
      have e1 : (va_up ad pl q) p = ad p := by unfold va_up; rw [if_neg h1]
      rw [e1]
  refine ⟨fun k e9 h => ?_, fun i j p9 q9 hi hj h9 => ?_, fun k e9 h => ?_⟩
  · obtain ⟨p, hp, rfl, rfl⟩ := sWl_out h
    exact hP _ _ (hK p hp)
  · obtain ⟨p1, hp1, rfl, rfl⟩ := sWl_out hi
    obtain ⟨p2, hp2, rfl, rfl⟩ := sWl_out hj
    have h3 := hD.1 _ _ _ _ (hK p1 hp1) (hK p2 hp2) h9
    have h4 : p1 = p2 := by
      rcases rrv_lv hp1 with g1 | ⟨g1, g2⟩
      · rcases rrv_lv hp2 with k1 | ⟨k1, k2⟩
        · exact g1.trans k1.symm
        · rw [if_pos g1, if_neg k1] at h3
          have := hlt p2 k2
          omega
      · rcases rrv_lv hp2 with k1 | ⟨k1, k2⟩
        · rw [if_neg g1, if_pos k1] at h3
          have := hlt p1 g2
          omega
        · rw [if_neg g1, if_neg k1] at h3
          exact sIx_inj g2 k2 h3
    rw [h4]
  · obtain ⟨p, hp, rfl, rfl⟩ := sWl_out h
    exact hD.2 _ _ (hK p hp)
theorem rrv_go {r : sR} {n pl q : Nat} {ad : Nat → Nat} (ho : rvo r n pl) : sGo r n ad (rrv r n pl) (n + 2) (va_up ad pl q) := by
  refine ⟨by omega, fun p hp => ?_⟩
  have h1 : p ≠ pl := fun e => ho.2.2.1 (e ▸ hp.2)
  exact ⟨⟨by have := hp.1; omega, by rw [rrv_row h1 hp.1]; exact hp.2⟩, by unfold va_up; rw [if_neg h1]⟩
theorem rrv_at {r : sR} {n pl : Nat} (ho : rvo r n pl) : lv (rrv r n pl) (n + 2) pl := ⟨by have := ho.2.1; omega, rrv_pl⟩
theorem sz_2 {n : Nat} (h : 172 ≤ n) : sz (n + 2) = sz n + 142 := by
  have h1 : sz (n + 2) = sz n + (sks n).2 + (sks (n + 1)).2 := rfl
  have e1 : sks n = if n % 2 = 0 then (3, 2) else (10, 140) := by
    unfold sks
    rw [if_neg (by omega)]
  have e2 : sks (n + 1) = if (n + 1) % 2 = 0 then (3, 2) else (10, 140) := by
    unfold sks
    rw [if_neg (by omega)]
  have h2 : (sks n).2 + (sks (n + 1)).2 = 142 := by
    rw [e1, e2]
    by_cases h3 : n % 2 = 0
    · rw [if_pos h3, if_neg (by omega)]
      rfl
    · rw [if_neg h3, if_pos (by omega)]
      rfl
  omega
theorem rj_ls {r : sR} : ∀ d, d ≤ 104 → sLs (rj r) (37 + d) = sLs r 37 := by
  intro d
  induction d with
  | zero =>
    intro _
    refine sLs_c (fun q hq => ?_)
    unfold rj
    rw [if_neg (by omega)]
  | succ d ih =>
    intro hd
    show sLs (rj r) (37 + d + 1) = _
    rw [sLs_succ, if_neg (by unfold rj; rw [if_pos (by omega)]; decide), ih (by omega)]
    simp
theorem rj_W {G : Nat → ClassId} {ad : Nat → Nat} {r : sR} {v : sV} {x : Int64 × UInt64} : sWl G ad (rj r) v 141 x = sWl G ad r v 37 x := by
  unfold sWl
  rw [show (141 : Nat) = 37 + 104 from rfl, rj_ls 104 (by decide)]
  apply List.map_congr_left
  intro p hp
  obtain ⟨k, hk⟩ := List.getElem?_of_mem hp
  have hp : p < 37 := (sLs_out hk).1.1
  rw [sC_ne (r := r) (r' := rj r) (by funext k; unfold rj; rw [if_neg (by omega)]) rfl]
theorem sFl_le {ci : Nat} (h : ci < 10) : (sFl ci).length ≤ 16 := by
  have h1 : ∀ ci : Fin 10, (sFl ci.val).length ≤ 16 := by decide
  exact h1 ⟨ci, h⟩
theorem sks_le (q : Nat) : (sks q).2 < gI := by
  unfold sks
  split
  · rename_i h1
    have h2 : ∀ q, q < 172 → (sTab.getD q (0, 0)).2 < 99999 := by decide +kernel
    exact h2 q h1
  · split
    · show 2 < 99999
      decide
    · show 140 < 99999
      decide
theorem up_go {r : sR} {n q : Nat} {ad : Nat → Nat} : sGo r n ad (rz r n) (n + 1) (va_up ad n q) := by
  refine ⟨Nat.le_succ n, fun p hp => ?_⟩
  have h1 : p ≠ n := by have := hp.1; omega
  exact ⟨⟨by have := hp.1; omega, by rw [rz_row h1]; exact hp.2⟩, by unfold va_up; rw [if_neg h1]⟩
theorem up_lv {r : sR} {n : Nat} : lv (rz r n) (n + 1) n := ⟨Nat.lt_succ_self n, rz_n⟩
theorem up_at {n q : Nat} {ad : Nat → Nat} : va_up ad n q n = q := by simp [va_up]
theorem W_00 {g : JFrame} (k : W p l e R s m args below meth c H locs (n - n) (sz n - sz n) Q g) : W p l e R s m args below meth c H locs 0 0 Q g := by rwa [Nat.sub_self, Nat.sub_self] at k
/-- a new object -/
theorem s_new (E : CallFix p m c cc nL s args wsL_law own) (hU : sU D G s) (hB : sB D G A H0 ad r v n x H locs) (hA0 : ∀ q, H0.size ≤ q → A q) (h0 : n0 ≤ n) (hRc : fin.2.2.2 - n0 ≤ R.cells ∧ sz fin.2.2.2 - sz n0 ≤ R.slots) {ci N : Nat} {C : String} {T : u_T} {ty : Nat → FieldType} {f : sR → sV → Nat → Option (β × sR × sV × Nat)} (hcl : sCls ci C T N ty) (hin : ∀ w ∈ u_ws C T N, w ∈ wsL_law) (hlk : Cond.classLink own index C ∈ wsL_law) (hinst : Cond.instantiable C N ∈ wsL_law) (hini : Cond.initialized C ∈ wsL_law) (hdef : ∀ j, j < N → defaultValue (ty j) = if (sFl ci).getD j false = true then .null else .int 0) (hdg : decode cc pc = .ok (.new index, 3))
    (hf : ck (sks n = (ci, N) ∧ wf r n) (nw r v n f) = some rez) (he : fin = fz n rez)
    (kk : ∀ (r1 : sR) (v1 : sV) (n1 : Nat) (rez : β × sR × sV × Nat), lv r1 n1 n → f r1 v1 n1 = some rez → fin = fz n1 rez → ∀ ad1 : Nat → Nat, sGo r n ad r1 n1 ad1 → n0 ≤ n1 → sks n = (ci, N) → ∀ (H : Heap), sB D G A H0 ad1 r1 v1 n1 x H locs → W p l e R s m args below meth c H locs (n1 - n0) (sz n1 - sz n0) Q (F0 m (pc + 3) ls (.ref (ad1 n) :: rest))) : W p l e R s m args below meth c H locs (n - n0) (sz n - sz n0) Q (F0 m pc ls rest) := by
  obtain ⟨⟨hk, hw⟩, hf⟩ := ck_e hf
  obtain ⟨z1, hf, h2⟩ := ac_e hf
  have he1 := he.trans h2
  have h4 : n + 1 ≤ fin.2.2.2 := by rw [he1]; exact Nat.le_add_right _ _
  have h6 := sz_le h4
  have h7 := sz_le h0
  have h8 : sz (n + 1) = sz n + N := by rw [sz_1, hk]
  obtain ⟨c1, c2, c3, c4, c5⟩ := id hcl
  have e2 : n - n0 + 1 = n + 1 - n0 := by omega
  have e3 : sz n - sz n0 + N = sz (n + 1) - sz n0 := by omega
  refine va_new (ci := ci) (fs := sFs ad (rz r n n) (vz v n n) (sFl ci)) E.1 E.2.1 E.2.2.2.2 hin ty c4 E.2.2.2.1 (E.2.2.2.2 _ hlk) (E.2.2.2.2 _ hinst) (E.2.2.2.2 _ hini) hU.1 hB.1 hB.2.1 hB.2.2 hA0 c2 (fun j hj => ?_) (by omega) (by omega) hdg (fun q H1 hP hD hS => ?_)
  · rw [hdef j hj]
    have e5 : vp_V (sFs ad (rz r n n) (vz v n n) (sFl ci)) j = sF1 ad (rz r n n) (vz v n n) (sFl ci) j := by
      show (sFs ad (rz r n n) (vz v n n) (sFl ci)).getD j .null = _
      rw [List.getD_eq_getElem?_getD, sFs_get (by rw [c3]; exact hj)]
      rfl
    rw [e5]
    simp only [sF1, rz, vz, if_true, rv]
  · have hpush := sWl_push (G := G) (ad := ad) (v := v) (x := x) hw (q := q) (e := .inr (ci, sFs ad (rz r n n) (vz v n n) (sFl ci))) (by simp only [sC, hk, c1, if_true])
    rw [hpush] at hP hD
    rw [e2, e3]
    have := kk _ _ _ z1 up_lv hf he1 (va_up ad n q) up_go (by omega) hk H1 ⟨hP, hD, hS⟩
    rwa [up_at] at this
/-- a new row of numbers -/
theorem s_newA (t : Nat) (ty : FieldType) (at0 : ArrayType) (E : CallFix p m c cc nL s args wsL_law own) (hU : sU D G s) (hB : sB D G A H0 ad r v n x H locs) (hA0 : ∀ q, H0.size ≤ q → A q) (h0 : n0 ≤ n) (hRc : fin.2.2.2 - n0 ≤ R.cells ∧ sz fin.2.2.2 - sz n0 ≤ R.slots) {N : Nat} {nn : Int32} {f : sR → sV → Nat → Option (β × sR × sV × Nat)} (hT : ∀ G, (sT G)[t]? = some (G t, ty)) (hty : newarray.typeOf at0 = ty) (hra : ∀ cA U, va_RA U cA ty → U.vm.findClass ("[" ++ ty.toString) = some cA) (harr : Cond.arrayClass (newarray.typeOf at0) ∈ wsL_law)
    (hcell : ∀ (cA : ClassId), vp_cell cA (N, .inl (fun _ => (0 : Int32))) = arrV cA N (fun _ => defaultValue ty)) (ht3 : t < 3) (hn : ¬ nn < 0) (hN : nn.toNatClampNeg = N) (hbytes : N * componentBytes ty ≤ 536870912) (hdg : decode cc pc = .ok (.newarray at0, 2))
    (hf : ck (sks n = (t + 10, N) ∧ wf r n) (nw r v n f) = some rez) (he : fin = fz n rez)
    (kk : ∀ (r1 : sR) (v1 : sV) (n1 : Nat) (rez : β × sR × sV × Nat), lv r1 n1 n → f r1 v1 n1 = some rez → fin = fz n1 rez → ∀ ad1 : Nat → Nat, sGo r n ad r1 n1 ad1 → n0 ≤ n1 → sks n = (t + 10, N) → ∀ (H : Heap), sB D G A H0 ad1 r1 v1 n1 x H locs → W p l e R s m args below meth c H locs (n1 - n0) (sz n1 - sz n0) Q (F0 m (pc + 2) ls (.ref (ad1 n) :: rest))) : W p l e R s m args below meth c H locs (n - n0) (sz n - sz n0) Q (F0 m pc ls (.int nn :: rest)) := by
  obtain ⟨⟨hk, hw⟩, hf⟩ := ck_e hf
  obtain ⟨z1, hf, h2⟩ := ac_e hf
  have he1 := he.trans h2
  have h4 : n + 1 ≤ fin.2.2.2 := by rw [he1]; exact Nat.le_add_right _ _
  have h6 := sz_le h4
  have h7 := sz_le h0
  have h8 : sz (n + 1) = sz n + N := by rw [sz_1, hk]
  have e2 : n - n0 + 1 = n + 1 - n0 := by omega
  have e3 : sz n - sz n0 + N = sz (n + 1) - sz n0 := by omega
  refine va_newa (atype := at0) (ty := ty) (a0 := (N, .inl (fun _ => (0 : Int32)))) E.1 E.2.1 (E.2.2.2.2 _ harr) hty hU.1 hB.1 hB.2.1 hB.2.2 hA0 hcell hn hN hbytes (by omega) (by omega) hdg (fun q cA H1 hK hP hD hS => ?_)
  have hcA : cA = G t := by
    have g1 := hra _ _ (hU.1.2 t _ (hT G)).2
    have g2 := hra _ _ (hK.2 (sT G).length (cA, ty) (by simp)).2
    exact Option.some.inj (g2.symm.trans g1)
  have hpush := sWl_push (G := G) (ad := ad) (v := v) (x := x) hw (q := q) (e := .inl (cA, N, .inl (fun _ => (0 : Int32)))) (by
    have e9 : vz v n n = fun _ => (0 : Int32) := by funext j; simp [vz]
    simp only [sC, hk, hcA, e9, show ¬ t + 10 < 10 by omega, show ¬ t + 10 = 13 by omega, show ¬ t + 10 = 14 by omega, show ¬ 15 ≤ t + 10 by omega, if_false, show t + 10 - 10 = t by omega])
  rw [hpush] at hP hD
  rw [e2, e3]
  have := kk _ _ _ z1 up_lv hf he1 (va_up ad n q) up_go (by omega) hk H1 ⟨hP, hD, hS⟩
  rwa [up_at] at this
/-- a revived object -/
theorem s_newP {pl : Nat} (E : CallFix p m c cc nL s args wsL_law own) (hU : sU D G s) (hB : sB D G A H0 ad r v n x H locs) (hA0 : ∀ q, H0.size ≤ q → A q) (h0 : n0 ≤ n) (hRc : fin.2.2.2 - n0 ≤ R.cells ∧ sz fin.2.2.2 - sz n0 ≤ R.slots) {ci N : Nat} {C : String} {T : u_T} {ty : Nat → FieldType} {f : sR → sV → Nat → Option (β × sR × sV × Nat)} (hcl : sCls ci C T N ty) (hin : ∀ w ∈ u_ws C T N, w ∈ wsL_law) (hlk : Cond.classLink own index C ∈ wsL_law) (hinst : Cond.instantiable C N ∈ wsL_law) (hini : Cond.initialized C ∈ wsL_law) (hdef : ∀ j, j < N → defaultValue (ty j) = if (sFl ci).getD j false = true then .null else .int 0) (h142 : N ≤ 142) (hdg : decode cc pc = .ok (.new index, 3))
    (hf : ck (sks pl = (ci, N) ∧ wf r n ∧ rvo r n pl) (nb r v n pl f) = some rez) (he : fin = fz n rez)
    (kk : ∀ (r1 : sR) (v1 : sV) (n1 : Nat) (rez : β × sR × sV × Nat), lv r1 n1 pl → f r1 v1 n1 = some rez → fin = fz n1 rez → ∀ ad1 : Nat → Nat, sGo r n ad r1 n1 ad1 → n0 ≤ n1 → sks pl = (ci, N) → ∀ (H : Heap), sB D G A H0 ad1 r1 v1 n1 x H locs → W p l e R s m args below meth c H locs (n1 - n0) (sz n1 - sz n0) Q (F0 m (pc + 3) ls (.ref (ad1 pl) :: rest))) : W p l e R s m args below meth c H locs (n - n0) (sz n - sz n0) Q (F0 m pc ls rest) := by
  obtain ⟨⟨hk, hw, ho⟩, hf⟩ := ck_e hf
  obtain ⟨z1, hf, h2⟩ := ac_e hf
  have he1 := he.trans h2
  have h4 : n + 2 ≤ fin.2.2.2 := by rw [he1]; exact Nat.le_add_right _ _
  have h6 := sz_le h4
  have h7 := sz_le h0
  have h8 := sz_2 ho.1
  obtain ⟨c1, c2, c3, c4, c5⟩ := id hcl
  refine va_new (ci := ci) (fs := sFs ad (rrv r n pl pl) (vz v pl pl) (sFl ci)) E.1 E.2.1 E.2.2.2.2 hin ty c4 E.2.2.2.1 (E.2.2.2.2 _ hlk) (E.2.2.2.2 _ hinst) (E.2.2.2.2 _ hini) hU.1 hB.1 hB.2.1 hB.2.2 hA0 c2 (fun j hj => ?_) (by omega) (by omega) hdg (fun q H1 hP hD hS => ?_)
  · rw [hdef j hj]
    have e5 : vp_V (sFs ad (rrv r n pl pl) (vz v pl pl) (sFl ci)) j = sF1 ad (rrv r n pl pl) (vz v pl pl) (sFl ci) j := by
      show (sFs ad (rrv r n pl pl) (vz v pl pl) (sFl ci)).getD j .null = _
      rw [List.getD_eq_getElem?_getD, sFs_get (by rw [c3]; exact hj)]
      rfl
    rw [e5]
    simp only [sF1, rrv, vz, if_true, rv]
  · have hpush := sW_rev ho (by simp only [sC, hk, c1, if_true]) hP hD
    have h9 := kk _ _ _ z1 (rrv_at ho) hf he1 (va_up ad pl q) (rrv_go ho) (by omega) hk H1 ⟨hpush.1, hpush.2, hS⟩
    rw [up_at] at h9
    exact W.widen (by omega) (by omega) h9
/-- a revived row of numbers -/
theorem s_newAP {pl : Nat} (t : Nat) (ty : FieldType) (at0 : ArrayType) (E : CallFix p m c cc nL s args wsL_law own) (hU : sU D G s) (hB : sB D G A H0 ad r v n x H locs) (hA0 : ∀ q, H0.size ≤ q → A q) (h0 : n0 ≤ n) (hRc : fin.2.2.2 - n0 ≤ R.cells ∧ sz fin.2.2.2 - sz n0 ≤ R.slots) {N : Nat} {nn : Int32} {f : sR → sV → Nat → Option (β × sR × sV × Nat)} (hT : ∀ G, (sT G)[t]? = some (G t, ty)) (hty : newarray.typeOf at0 = ty) (hra : ∀ cA U, va_RA U cA ty → U.vm.findClass ("[" ++ ty.toString) = some cA) (harr : Cond.arrayClass (newarray.typeOf at0) ∈ wsL_law)
    (hcell : ∀ (cA : ClassId), vp_cell cA (N, .inl (fun _ => (0 : Int32))) = arrV cA N (fun _ => defaultValue ty)) (ht3 : t < 3) (hn : ¬ nn < 0) (hN : nn.toNatClampNeg = N) (hbytes : N * componentBytes ty ≤ 536870912) (h142 : N ≤ 142) (hdg : decode cc pc = .ok (.newarray at0, 2))
    (hf : ck (sks pl = (t + 10, N) ∧ wf r n ∧ rvo r n pl) (nb r v n pl f) = some rez) (he : fin = fz n rez)
    (kk : ∀ (r1 : sR) (v1 : sV) (n1 : Nat) (rez : β × sR × sV × Nat), lv r1 n1 pl → f r1 v1 n1 = some rez → fin = fz n1 rez → ∀ ad1 : Nat → Nat, sGo r n ad r1 n1 ad1 → n0 ≤ n1 → sks pl = (t + 10, N) → ∀ (H : Heap), sB D G A H0 ad1 r1 v1 n1 x H locs → W p l e R s m args below meth c H locs (n1 - n0) (sz n1 - sz n0) Q (F0 m (pc + 2) ls (.ref (ad1 pl) :: rest))) : W p l e R s m args below meth c H locs (n - n0) (sz n - sz n0) Q (F0 m pc ls (.int nn :: rest)) := by
  obtain ⟨⟨hk, hw, ho⟩, hf⟩ := ck_e hf
  obtain ⟨z1, hf, h2⟩ := ac_e hf
  have he1 := he.trans h2
  have h4 : n + 2 ≤ fin.2.2.2 := by rw [he1]; exact Nat.le_add_right _ _
  have h6 := sz_le h4
  have h7 := sz_le h0
  have h8 := sz_2 ho.1
  refine va_newa (atype := at0) (ty := ty) (a0 := (N, .inl (fun _ => (0 : Int32)))) E.1 E.2.1 (E.2.2.2.2 _ harr) hty hU.1 hB.1 hB.2.1 hB.2.2 hA0 hcell hn hN hbytes (by omega) (by omega) hdg (fun q cA H1 hK hP hD hS => ?_)
  have hcA : cA = G t := by
    have g1 := hra _ _ (hU.1.2 t _ (hT G)).2
    have g2 := hra _ _ (hK.2 (sT G).length (cA, ty) (by simp)).2
    exact Option.some.inj (g2.symm.trans g1)
  have hpush := sW_rev (pl := pl) ho (by
    have e9 : vz v pl pl = fun _ => (0 : Int32) := by funext j; simp [vz]
    simp only [sC, hk, hcA, e9, show ¬ t + 10 < 10 by omega, show ¬ t + 10 = 13 by omega, show ¬ t + 10 = 14 by omega, show ¬ 15 ≤ t + 10 by omega, if_false, show t + 10 - 10 = t by omega]) hP hD
  have h9 := kk _ _ _ z1 (rrv_at ho) hf he1 (va_up ad pl q) (rrv_go ho) (by omega) hk H1 ⟨hpush.1, hpush.2, hS⟩
  rw [up_at] at h9
  exact W.widen (by omega) (by omega) h9
/-- the ring's places are passed over -/
theorem s_jump {g : JFrame} (hB : sB D G A H0 ad r v n x H locs) (h0 : n0 ≤ n) (hRc : fin.2.2.2 - n0 ≤ R.cells ∧ sz fin.2.2.2 - sz n0 ≤ R.slots) {f : Unit → sR → sV → Nat → Option (β × sR × sV × Nat)} (hf : ck (n = 37 ∧ wf r n) (ac ((), rj r, v, 104) n f) = some rez) (he : fin = fz n rez)
    (kk : ∀ (r1 : sR) (n1 : Nat) (rez : β × sR × sV × Nat), f () r1 v n1 = some rez → fin = fz n1 rez → sGo r n ad r1 n1 ad → n0 ≤ n1 → sB D G A H0 ad r1 v n1 x H locs → W p l e R s m args below meth c H locs (n1 - n0) (sz n1 - sz n0) Q g) : W p l e R s m args below meth c H locs (n - n0) (sz n - sz n0) Q g := by
  obtain ⟨⟨rfl, hw⟩, hf⟩ := ck_e hf
  obtain ⟨z1, hf, h2⟩ := ac_e hf
  have h6 := sz_le (show 37 ≤ 37 + 104 by decide)
  refine W.widen (by omega) (by omega) (kk (rj r) (37 + 104) z1 hf (he.trans h2) ⟨by decide, fun p hp => ⟨⟨by have := hp.1; omega, ?_⟩, rfl⟩⟩ (by omega) ?_)
  · have := hp.1
    unfold rj
    rw [if_neg (by omega)]
    exact hp.2
  · unfold sB
    rw [show (37 + 104 : Nat) = 141 from rfl, rj_W]
    exact hB
/-- Object's constructor does nothing -/
theorem s_obj (E : CallFix p m c cc nL s args wsL_law own) (hl : ls.size = nL) {q : Nat} (hlk : Cond.methodLink own index Lib.objectInit ∈ wsL_law) (hi : Cond.instanceMethod Lib.objectInit ∈ wsL_law) (hco : Cond.code Lib.objectInit ⟨#[0xb1]⟩ 1 none ∈ wsL_law) (hdg : decode cc pc = .ok (.invokespecial index, 3)) (hfr : 1 ≤ R.frames) (hlo : 2 * 0 + (rest.map fun v => v.category).sum + 12 ≤ R.locals)
    (kk : W p l e R s m args below meth c H locs cells slots Q (F0 m (pc + 3) ls rest)) : W p l e R s m args below meth c H locs cells slots Q (F0 m pc ls (.ref (ad q) :: rest)) := by
  refine W.objInit E.1 E.2.1 E.2.2.2.1 (E.2.2.2.2 _ hlk) (E.2.2.2.2 _ hi) (E.2.2.2.2 _ hco) rfl (by rw [E.2.2.1]; exact hl) rfl hdg hfr hlo ?_
  exact kk
/-- a final reference, set in its constructor -/
theorem s_putR (E : CallFix p m c cc nL s args wsL_law own) (hU : sU D G s) (hB : sB D G A H0 ad r v n x H locs) {q t k ci N : Nat} {C ref : String} {T : u_T} {ty : Nat → FieldType} {ty1 : FieldType} {f : sR → Option ρ} (hcl : sCls ci C T N ty) (hq : lv r n q) (hk : sks q = (ci, N)) (hin : ∀ w ∈ u_ws C T N, w ∈ wsL_law) (hkN : k < N) (hre : (T k).1 = ref) (hfl : (sFl ci).getD k false = true) (hlink : Cond.fieldLink own index ref (T k).2.1 (T k).2.2.1 ∈ wsL_law) (hfin : (T k).2.2.2 = true) (hin2 : meth.name = "<init>") (hdecl : (T k).1 = own) (hty : ty k = ty1) (hn : narrow ty1 (.ref (ad t)) = .ref (ad t)) (hfit : fits ty1 (.ref (ad t)) = true) (hdg : decode cc pc = .ok (.putfield index, 3)) (hf : nm (r2 r q k (t + 1)) f = some res)
    (kk : ∀ r1 : sR, f r1 = some res → sGo r n ad r1 n ad → ∀ (H : Heap) (locs : List Loc), sB D G A H0 ad r1 v n x H locs → W p l e R s m args below meth c H locs cells slots Q (F0 m (pc + 3) ls rest)) : W p l e R s m args below meth c H locs cells slots Q (F0 m pc ls (.ref (ad t) :: .ref (ad q) :: rest)) := by
  obtain ⟨h1, h2, h3, h4, h5⟩ := hcl
  have hk9 : k ≠ gI := by
    have := sFl_le h1
    unfold gI
    omega
  have hset : (sWl G ad r v n x).set (sIx r q) (ad q, .inr (ci, (sFs ad (r q) (v q) (sFl ci)).set k (.ref (ad t)))) = sWl G ad (r2 r q k (t + 1)) v n x := by
    refine sWl_set hq (fun q' _ => by rw [r2_gI hk9]) ?_ (fun q' _ h' => sC_ne (r2_ne h') rfl)
    simp only [sC, hk, h1, if_true]
    rw [sFs_set (r' := r2 r q k (t + 1) q) (v' := v q) (by rw [h3]; exact hkN) (by unfold sF1; rw [if_pos hfl]; simp [r2, rv]) (fun j _ hj => by unfold sF1; simp [r2, hj])]
  refine va_putF E.1 E.2.1 E.2.2.2.2 hin ty h4 h5 E.2.2.2.1 hU.1 hB.1 hB.2.1 hB.2.2 (sIx r q) (fs := sFs ad (r q) (v q) (sFl ci)) (by rw [sWl_get hq]; simp only [sC, hk, h1, if_true]) h2 k hkN (E.2.2.2.2 _ hlink) (fun x9 h9 => by rw [← hre]; exact h9) hfin hin2 hdecl (ty := ty1) (by rw [h4 k hkN, hty]) hn hfit (by rw [sFs_len, h3]; exact hkN) hdg (fun H1 locs1 g1 g2 g3 => ?_)
  rw [hset] at g1 g2
  exact kk _ hf (sGo_r2 hk9) H1 locs1 ⟨g1, g2, g3⟩
/-- a row of references: one is put in -/
theorem s_aast (E : CallFix p m c cc nL s args wsL_law own) (hU : sU D G s) (hB : sB D G A H0 ad r v n x H locs) {q t kd ce Ne N : Nat} {C : String} {T : u_T} {ty : Nat → FieldType} {i : Int32} {f : sR → Option ρ} (hkd : kd = 15 ∨ kd = 16) (hq : lv r n q) (hk : sks q = (kd, N)) (hcl : sCls ce C T Ne ty) (ht : lv r n t) (hkt : sks t = (ce, Ne)) (hT : (sT G)[kd - 10]? = some (G (kd - 10), .object C)) (hdg : decode cc pc = .ok (.aastore, 1)) (hf : ck (inR i N) (nm (r2 r q i.toNatClampNeg (t + 1)) f) = some res)
    (kk : ∀ r1 : sR, f r1 = some res → sGo r n ad r1 n ad → ∀ (H : Heap) (locs : List Loc), sB D G A H0 ad r1 v n x H locs → W p l e R s m args below meth c H locs cells slots Q (F0 m (pc + 1) ls rest)) : W p l e R s m args below meth c H locs cells slots Q (F0 m pc ls (.ref (ad t) :: .int i :: .ref (ad q) :: rest)) := by
  obtain ⟨hin, hf⟩ := ck_e hf
  have hk9 : i.toNatClampNeg ≠ gI := by
    have h1 := sks_le q
    rw [hk] at h1
    have h1 : N < gI := h1
    have h2 : i.toNatClampNeg < N := by
      show i.toInt.toNat < N
      have := hin
      unfold inR at this
      omega
    omega
  have hcell : ∀ (r : sR), sC G ad r v x q = .inl (G (kd - 10), N, .inr (.inr (.inr (.inr (fun i => ro ad (r q i)))))) := by
    intro r
    unfold sC
    rw [hk]
    rcases hkd with rfl | rfl <;> rfl
  have hset : (sWl G ad r v n x).set (sIx r q) (ad q, .inl (G (kd - 10), N, .inr (.inr (.inr (.inr (va_up (fun i => ro ad (r q i)) i.toNatClampNeg (some (ad t)))))))) = sWl G ad (r2 r q i.toNatClampNeg (t + 1)) v n x := by
    refine sWl_set hq (fun q' _ => by rw [r2_gI hk9]) ?_ (fun q' _ h' => sC_ne (r2_ne h') rfl)
    rw [hcell]
    have e6 : va_up (fun i => ro ad (r q i)) i.toNatClampNeg (some (ad t)) = fun i' => ro ad (r2 r q i.toNatClampNeg (t + 1) q i') := by
      funext j
      unfold va_up r2
      by_cases hj : j = i.toNatClampNeg
      · simp [hj, ro]
      · simp [hj]
    rw [e6]
  refine va_astq (r := (C, T, Ne)) E.1 E.2.1 hU.1 hB.1 hB.2.1 hB.2.2 (sIx r q) (kd - 10) (sIx r t) ce (cA := G (kd - 10)) (n := N) (v := ad t) (vs := sFs ad (r t) (v t) (sFl ce)) (f := fun i => ro ad (r q i)) (by rw [sWl_get hq, hcell]) hT (by rw [sWl_get ht]; simp only [sC, hkt, hcl.1, if_true]) hcl.2.1 (s_in hin) hdg (fun H1 locs1 g1 g2 g3 => ?_)
  rw [hset] at g1 g2
  exact kk _ hf (sGo_r2 hk9) H1 locs1 ⟨g1, g2, g3⟩
/-- a mark that no cell shows -/
theorem s_gh {D : va_G} {G : Nat → ClassId} {A : Nat → Prop} {H0 : Heap} {ad : Nat → Nat} {r : sR} {v : sV} {n : Nat} {x : Int64 × UInt64} {H : Heap} {locs : List Loc} {j : Nat} {y : Int32} (hB : sB D G A H0 ad r v n x H locs) : sB D G A H0 ad r (s2 v 36 j y) n x H locs := by
  have h1 : ∀ p, sC G ad r (s2 v 36 j y) x p = sC G ad r v x p := by
    intro p
    by_cases hp : p = 36
    · subst hp
      rfl
    · exact sC_ne rfl (s2_ne hp)
  have h2 : sWl G ad r (s2 v 36 j y) n x = sWl G ad r v n x := by
    unfold sWl
    apply List.map_congr_left
    intro p _
    rw [h1 p]
  unfold sB
  rw [h2]
  exact hB
/-- a row of references: one is read that may be null -/
theorem s_aaldF (E : CallFix p m c cc nL s args wsL_law own) (hU : sU D G s) (hP : va_P D vwCl (sWl G ad r v n x) H) (hsh : sSh r) (hn : 172 ≤ n) {i : Int32} {f0 : Option ρ} {f1 : Nat → Option ρ} (hdg : decode cc pc = .ok (.aaload, 1)) (hf : ldF r i f0 f1 = some res)
    (k0 : f0 = some res → W p l e R s m args below meth c H locs cells slots Q (F0 m (pc + 1) ls (.null :: rest)))
    (k1 : ∀ q : Nat, f1 q = some res → W p l e R s m args below meth c H locs cells slots Q (F0 m (pc + 1) ls (.ref (ad q) :: rest))) : W p l e R s m args below meth c H locs cells slots Q (F0 m pc ls (.int i :: .ref (ad 15) :: rest)) := by
  unfold ldF at hf
  split at hf
  case isFalse => cases hf
  case isTrue hc =>
    refine va_aldq E.1 E.2.1 hU.1 hP (sIx r 15) 5 (cA := G 5) (C := "CrowdSimulator$Field") (n := 140) (f := fun j => ro ad (r 15 j)) (by rw [sWl_get (slt hsh hn 15 rfl)]; rfl) rfl (s_in hc) hdg ?_
    cases h1 : r 15 i.toNatClampNeg with
    | zero =>
      rw [h1] at hf
      exact k0 hf
    | succ q =>
      rw [h1] at hf
      exact k1 q hf
/-- a new row of references -/
theorem s_newQ (E : CallFix p m c cc nL s args wsL_law own) (hU : sU D G s) (hB : sB D G A H0 ad r v n x H locs) (hA0 : ∀ q, H0.size ≤ q → A q) (h0 : n0 ≤ n) (hRc : fin.2.2.2 - n0 ≤ R.cells ∧ sz fin.2.2.2 - sz n0 ≤ R.slots) {kd N : Nat} {C : String} {nn : Int32} {f : sR → sV → Nat → Option (β × sR × sV × Nat)} (hkd : kd = 15 ∨ kd = 16) (hT : (sT G)[kd - 10]? = some (G (kd - 10), .object C)) (hlk : Cond.classLink own index C ∈ wsL_law) (hover : va_AO C s) (hn : ¬ nn < 0) (hN : nn.toNatClampNeg = N) (hbytes : N * 4 ≤ 536870912) (hdg : decode cc pc = .ok (.anewarray index, 3))
    (hf : ck (sks n = (kd, N) ∧ wf r n) (nw r v n f) = some rez) (he : fin = fz n rez)
    (kk : ∀ (r1 : sR) (v1 : sV) (n1 : Nat) (rez : β × sR × sV × Nat), lv r1 n1 n → f r1 v1 n1 = some rez → fin = fz n1 rez → ∀ ad1 : Nat → Nat, sGo r n ad r1 n1 ad1 → n0 ≤ n1 → sks n = (kd, N) → ∀ (H : Heap), sB D G A H0 ad1 r1 v1 n1 x H locs → W p l e R s m args below meth c H locs (n1 - n0) (sz n1 - sz n0) Q (F0 m (pc + 3) ls (.ref (ad1 n) :: rest))) : W p l e R s m args below meth c H locs (n - n0) (sz n - sz n0) Q (F0 m pc ls (.int nn :: rest)) := by
  obtain ⟨⟨hk, hw⟩, hf⟩ := ck_e hf
  obtain ⟨z1, hf, h2⟩ := ac_e hf
  have he1 := he.trans h2
  have h4 : n + 1 ≤ fin.2.2.2 := by rw [he1]; exact Nat.le_add_right _ _
  have h6 := sz_le h4
  have h7 := sz_le h0
  have h8 : sz (n + 1) = sz n + N := by rw [sz_1, hk]
  have e2 : n - n0 + 1 = n + 1 - n0 := by omega
  have e3 : sz n - sz n0 + N = sz (n + 1) - sz n0 := by omega
  refine va_newq (C := C) (N' := N) E.1 E.2.1 E.2.2.2.1 (E.2.2.2.2 _ hlk) hover hU.1 hB.1 hB.2.1 hB.2.2 hA0 hn hN hbytes (by omega) (by omega) hdg (fun q cA H1 hK hP hD hS => ?_)
  have hcA : cA = G (kd - 10) := by
    have g1 := (hU.1.2 (kd - 10) _ hT).2
    have g2 := (hK.2 (sT G).length (cA, .object C) (by simp)).2
    obtain ⟨_, _, _, _, _, g3⟩ := g1
    obtain ⟨_, _, _, _, _, g4⟩ := g2
    exact Option.some.inj (g4.symm.trans g3)
  have hpush := sWl_push (G := G) (ad := ad) (v := v) (x := x) hw (q := q) (e := .inl (cA, N, .inr (.inr (.inr (.inr (fun _ => none)))))) (by
    unfold sC
    rw [hk, hcA]
    have e9 : (fun i => ro ad (rz r n n i)) = fun _ => none := by funext i; simp [rz, ro]
    rw [e9]
    rcases hkd with rfl | rfl <;> rfl)
  rw [hpush] at hP hD
  rw [e2, e3]
  have := kk _ _ _ z1 up_lv hf he1 (va_up ad n q) up_go (by omega) hk H1 ⟨hP, hD, hS⟩
  rwa [up_at] at this
/-! ends -/
theorem s_iretA (E : CallFix p m c cc nL s args wsL_law own) (hr : meth.sig.returnType = some .int) (hlocks : meth.locks = false) (hB : sB D G (sA ad0 r0 n0 s.heap.size) s.heap ad r v n x H locs) (hgo : sGo r0 n0 ad0 r n ad) {y : Int32} {fin rez : Int32 × sR × sV × Nat} (hf : some (y, r, v, 0) = some rez) (he : fin = fz n rez) (hdg : decode cc pc = .ok (.ireturn, 1)) : W p l e R s m args below meth c H locs (n - n0) (sz n - sz n0) (MQ below (sQAi D G ad0 r0 n0 x s.heap.size fin) args s (fin.2.2.2 - n0) (sz fin.2.2.2 - sz n0) (sA ad0 r0 n0 s.heap.size)) (F0 m pc ls [.int y]) := by
  cases hf
  subst he
  exact W.iret (v := y) E.1 E.2.1 hr (fun t ht hW => ⟨⟨y, ad, rfl, ⟨rfl, hgo⟩, sB_at hB ht, hB.2.1⟩, hB.2.2.F ht⟩) hB.2.2.2.2 hdg hlocks
theorem s_zretA {ty : FieldType} (E : CallFix p m c cc nL s args wsL_law own) (hr : meth.sig.returnType = some ty) (hlocks : meth.locks = false) (hB : sB D G (sA ad0 r0 n0 s.heap.size) s.heap ad r v n x H locs) (hgo : sGo r0 n0 ad0 r n ad) {y : Int32} {fin rez : Int32 × sR × sV × Nat} (hn : narrow ty (.int y) = .int y) (hf : some (y, r, v, 0) = some rez) (he : fin = fz n rez) (hdg : decode cc pc = .ok (.ireturn, 1)) : W p l e R s m args below meth c H locs (n - n0) (sz n - sz n0) (MQ below (sQAi D G ad0 r0 n0 x s.heap.size fin) args s (fin.2.2.2 - n0) (sz fin.2.2.2 - sz n0) (sA ad0 r0 n0 s.heap.size)) (F0 m pc ls [.int y]) := by
  cases hf
  subst he
  exact W.zret (v := y) E.1 E.2.1 hr hn (fun t ht hW => ⟨⟨y, ad, rfl, ⟨rfl, hgo⟩, sB_at hB ht, hB.2.1⟩, hB.2.2.F ht⟩) hB.2.2.2.2 hdg hlocks
theorem s_vretA (E : CallFix p m c cc nL s args wsL_law own) (hr : meth.sig.returnType = none) (hlocks : meth.locks = false) (hB : sB D G (sA ad0 r0 n0 s.heap.size) s.heap ad r v n x H locs) (hgo : sGo r0 n0 ad0 r n ad) {fin rez : Unit × sR × sV × Nat} (hf : some ((), r, v, 0) = some rez) (he : fin = fz n rez) (hdg : decode cc pc = .ok (.return_, 1)) : W p l e R s m args below meth c H locs (n - n0) (sz n - sz n0) (MQ below (sQAv D G ad0 r0 n0 x s.heap.size fin) args s (fin.2.2.2 - n0) (sz fin.2.2.2 - sz n0) (sA ad0 r0 n0 s.heap.size)) (F0 m pc ls []) := by
  cases hf
  subst he
  exact W.vret E.1 E.2.1 hr (fun t ht hW => ⟨⟨ad, rfl, hgo, sB_at hB ht, hB.2.1⟩, hB.2.2.F ht⟩) hB.2.2.2.2 hdg hlocks
theorem s_aretA {C : String} (E : CallFix p m c cc nL s args wsL_law own) (hr : meth.sig.returnType = some (.object C)) (hlocks : meth.locks = false) (hB : sB D G (sA ad0 r0 n0 s.heap.size) s.heap ad r v n x H locs) (hgo : sGo r0 n0 ad0 r n ad) {y : Nat} {fin rez : Nat × sR × sV × Nat} (hf : some (y, r, v, 0) = some rez) (he : fin = fz n rez) (hdg : decode cc pc = .ok (.areturn, 1)) : W p l e R s m args below meth c H locs (n - n0) (sz n - sz n0) (MQ below (sQAr D G ad0 r0 n0 x s.heap.size fin) args s (fin.2.2.2 - n0) (sz fin.2.2.2 - sz n0) (sA ad0 r0 n0 s.heap.size)) (F0 m pc ls [.ref (ad y)]) := by
  cases hf
  subst he
  exact W.aret (v := .ref (ad y)) E.1 E.2.1 hr (Or.inl ⟨C, rfl⟩) (Or.inr ⟨_, rfl⟩) (fun t ht hW => ⟨⟨ad, ad y, rfl, hgo, rfl, sB_at hB ht, hB.2.1⟩, hB.2.2.F ht⟩) hB.2.2.2.2 hdg hlocks
end SAL
theorem hdef2 : ∀ j, j < 3 → defaultValue (tyX0 j) = if (sFl 2).getD j false = true then Value.null else Value.int 0 := fun j hj => match j, hj with
  | 0, _ => rfl
  | 1, _ => rfl
  | 2, _ => rfl
theorem hdef3 : ∀ j, j < 2 → defaultValue (tyX1 j) = if (sFl 3).getD j false = true then Value.null else Value.int 0 := fun j hj => match j, hj with
  | 0, _ => rfl
  | 1, _ => rfl
theorem hdef4 : ∀ j, j < 4 → defaultValue (tyX2 j) = if (sFl 4).getD j false = true then Value.null else Value.int 0 := fun j hj => match j, hj with
  | 0, _ => rfl
  | 1, _ => rfl
  | 2, _ => rfl
  | 3, _ => rfl
theorem hdef5 : ∀ j, j < 3 → defaultValue (tyX3 j) = if (sFl 5).getD j false = true then Value.null else Value.int 0 := fun j hj => match j, hj with
  | 0, _ => rfl
  | 1, _ => rfl
  | 2, _ => rfl
theorem hdef6 : ∀ j, j < 3 → defaultValue (tyX4 j) = if (sFl 6).getD j false = true then Value.null else Value.int 0 := fun j hj => match j, hj with
  | 0, _ => rfl
  | 1, _ => rfl
  | 2, _ => rfl
theorem hdef7 : ∀ j, j < 13 → defaultValue (tyX5 j) = if (sFl 7).getD j false = true then Value.null else Value.int 0 := fun j hj => match j, hj with
  | 0, _ => rfl
  | 1, _ => rfl
  | 2, _ => rfl
  | 3, _ => rfl
  | 4, _ => rfl
  | 5, _ => rfl
  | 6, _ => rfl
  | 7, _ => rfl
  | 8, _ => rfl
  | 9, _ => rfl
  | 10, _ => rfl
  | 11, _ => rfl
  | 12, _ => rfl
theorem hdef8 : ∀ j, j < 8 → defaultValue (tyX6 j) = if (sFl 8).getD j false = true then Value.null else Value.int 0 := fun j hj => match j, hj with
  | 0, _ => rfl
  | 1, _ => rfl
  | 2, _ => rfl
  | 3, _ => rfl
  | 4, _ => rfl
  | 5, _ => rfl
  | 6, _ => rfl
  | 7, _ => rfl
theorem hdef9 : ∀ j, j < 16 → defaultValue (tyX7 j) = if (sFl 9).getD j false = true then Value.null else Value.int 0 := fun j hj => match j, hj with
  | 0, _ => rfl
  | 1, _ => rfl
  | 2, _ => rfl
  | 3, _ => rfl
  | 4, _ => rfl
  | 5, _ => rfl
  | 6, _ => rfl
  | 7, _ => rfl
  | 8, _ => rfl
  | 9, _ => rfl
  | 10, _ => rfl
  | 11, _ => rfl
  | 12, _ => rfl
  | 13, _ => rfl
  | 14, _ => rfl
  | 15, _ => rfl
  | j + 16, hj => absurd hj (by omega)
