/-! ROWS FOR THE LAW: its wrappers called, its script read, its two cells read -/
def sOkH (y : MethodName) (bytes : ByteArray) (maxL : Nat) (ret : Option FieldType) (hh : List (Nat × Nat × Nat × Nat)) (n : Nat) : Prop :=
  (Cond.codeWith y bytes maxL ret hh ∈ wsL_law ∧ Cond.initialized y.cls ∈ wsL_law ∧ y.cls ≠ "java/lang/invoke/MethodHandle" ∧ y.cls ≠ "java/lang/invoke/VarHandle" ∧ (parseMethodDescriptor y.desc).map (fun d => d.parameters.length) = some n) ∧ Cond.static y ∈ wsL_law
theorem cwGH {R rm : Room} {s : State} {args : Array Value} {own : String} {index maxL mc ms : Nat} {y : MethodName} {bytes : ByteArray} {ret : Option FieldType} {hh : List (Nat × Nat × Nat × Nat)} (n : Nat) (ok : sOkH y bytes maxL ret hh n) (hl : Cond.methodLink own index y ∈ wsL_law) (hts : ∀ w ∈ wsL_law, w.before args s = true) (hrc : rm.cells = mc) (hrs : rm.slots = ms) (hR : rm.frames + 1 ≤ R.frames ∧ 8 + (maxL + 11) + rm.locals ≤ R.locals) :
    vx_CSW R s args own index y bytes maxL ret hh (Cond.codeWith y bytes maxL ret hh :: wsL_law) rm mc ms n := by
  refine vx_cwSW (ws' := wsL_law) (Ts := wsL_law) n hts (fun w hw => ?_) rfl hrc hrs ok.1.2.2 hR
  have hm : w ∈ wsL_law := by
    unfold va_wsS at hw
    rcases List.mem_append.mp hw with h | h
    · simp only [List.mem_cons, List.not_mem_nil, or_false] at h
      rcases h with rfl | rfl | rfl
      · exact hl
      · exact ok.2
      · exact ok.1.2.1
    · rcases List.mem_cons.mp h with rfl | h
      · exact ok.1.1
      · exact h
  exact ⟨hm, good_of_word (goodL w hm)⟩
section SLW
variable {p : Program} {l : Launch} {e : Env} {R : Room} {s : State} {m : MethodId} {args : Array Value} {below : List Frame} {meth : Method} {c : Code} {H : Heap} {locs : List Loc} {cells slots : Nat} {Q : State → Prop} {pc : Nat} {ls : Array Slot} {rest st0 As : List Value} {cc : ByteArray} {nL : Nat} {own : String} {Ts : List Cond}
variable {D : va_G} {G : Nat → ClassId} {A : Nat → Prop} {H0 : Heap} {ad ad0 : Nat → Nat} {r r0 : sR} {v : sV} {n n0 : Nat} {x : Int64 × UInt64} {α ρ β γ : Type} {res : ρ}
variable {y : MethodName} {bytes : ByteArray} {maxL index k : Nat} {ret : Option FieldType} {ws : List Cond} {rm : Room} {hh : List (Nat × Nat × Nat × Nat)}
theorem rS_L (E : CallFix p m c cc nL s args wsL_law own) (hU : sU D G s) (hNc : sNc s) (hZ : sZ A s) (hA0 : ∀ q, s.heap.size ≤ q → A q) (hB : sB D G A s.heap ad r v n x H locs) {mc ms : Nat} {Qc : Array Value → State → Outcome → State → Prop} {XC : String → State → State → Prop} (M : vx_Met l y ws rm (sPL D G ad r v n x H.size As) Qc XC mc ms (sA ad r n H.size)) (cw : vx_CSW R s args own index y bytes maxL ret hh ws rm mc ms k) (hn : As.length = k) (hl : ls.size = nL) (hst : (rest.map fun v => v.category).sum ≤ 8) (hdg : decode cc pc = .ok (.invokestatic index, 3)) (hc : cells + mc ≤ R.cells ∧ slots + ms ≤ R.slots) (hs : st0 = As.reverse ++ rest) :
    vx_Run p l e R s m args below meth c H locs cells slots mc ms (F0 m pc ls st0) rest (Qc As.toArray) XC (sA ad r n H.size) :=
  vx_runSX E M cw ⟨fb_L, fun U hU1 hW => ⟨⟨rfl, by rw [hU1], hU.warm hW, by rw [hU1]; exact hB.1, ⟨hB.2.1.1, fun _ _ _ => trivial⟩, sZ_to hZ hB hA0 hU1 hW⟩, sNc.warm hW hNc⟩⟩ rfl hn hl hs (lv_room hst) hdg hc
/-- a wrapper called -/
theorem sl_W (hB : sB D G A s.heap ad r v n x H locs) (hA0 : ∀ q, s.heap.size ≤ q → A q) {q0 : (Int32 × (Int64 × UInt64)) × sR × sV × Nat} {a : Array Value} (hr : vx_Run p l e R s m args below meth c H locs cells slots (mcL n (fz n q0)) (msL n (fz n q0)) (F0 m pc ls st0) rest (sQL D G ad r n H.size (fz n q0) a) sWX (sA ad r n H.size))
    (kk : ∀ ad1 : Nat → Nat, sGo r n ad q0.2.1 (n + q0.2.2.2) ad1 → ∀ (H : Heap) (locs : List Loc), sB D G A s.heap ad1 q0.2.1 q0.2.2.1 (n + q0.2.2.2) q0.1.2 H locs → W p l e R s m args below meth c H locs (cells + (q0.2.2.2 + 1)) (slots + (sz (n + q0.2.2.2) - sz n + 6)) Q (F0 m (pc + 3) ls (.int q0.1.1 :: rest))) : W p l e R s m args below meth c H locs cells slots Q (F0 m pc ls st0) := by
  have hr : vx_Run p l e R s m args below meth c H locs cells slots (mcL n (fz n q0)) (msL n (fz n q0)) (F0 m pc ls st0) rest (sQL D G ad r n H.size (fz n q0) a) (vx_X (S := Unit) (fun _ => False) (fun _ _ _ => False) (fun _ => False)) (sA ad r n H.size) := by
    intro T hT X
    rcases hr T hT X with h | ⟨q, st₀, t, T', L, E, ce, h0, X', hL, e1, e2, hx, h9⟩
    · exact Or.inl h
    · exact hx.elim
  refine vx_calli hr hB.2.2 (fun q _ h => sA_in hB hA0 q h) (sA_in hB hA0) (fun q _ h => h.elim) (fun E0 ce q9 ad1 t H1 locs1 ht ha hp hb hz hk hS hce hcv hcl => hp.elim) (fun y ad1 t H1 locs1 ht hvm hw hb hz hk hS => ?_)
  obtain ⟨hw, hg1⟩ := hw
  have e1 : mcL n (fz n q0) = q0.2.2.2 + 1 := by
    show n + q0.2.2.2 - n + 1 = _
    omega
  have e2 : msL n (fz n q0) = sz (n + q0.2.2.2) - sz n + 6 := rfl
  rw [e1, e2, hw]
  refine kk ad1 hg1 H1 locs1 ⟨?_, ⟨hb.2.1, fun k z hz => sA_in hB hA0 _ (hb.2.2 k z hz)⟩, hS⟩
  rw [← ht]; exact hb.1
/-- the law's cells read -/
theorem s_lald (E : CallFix p m c cc nL s args Ts own) (hU : sU D G s) (hP : va_P D vwCl (sWl G ad r v n x) H) (hq : lv r n 170) (hdg : decode cc pc = .ok (.laload, 1))
    (k : W p l e R s m args below meth c H locs cells slots Q (F0 m (pc + 1) ls (.long x.1 :: rest))) : W p l e R s m args below meth c H locs cells slots Q (F0 m pc ls (.int 0 :: .ref (ad 170) :: rest)) :=
  va_lald E.1 E.2.1 hU.1 hP (sIx r 170) 3 (cA := G 3) (n := 1) (f := fun _ => x.1) (by rw [sWl_get hq]; rfl) rfl (s_in (by decide)) hdg k
theorem s_dald (E : CallFix p m c cc nL s args Ts own) (hU : sU D G s) (hP : va_P D vwCl (sWl G ad r v n x) H) (hq : lv r n 171) (hdg : decode cc pc = .ok (.daload, 1))
    (k : W p l e R s m args below meth c H locs cells slots Q (F0 m (pc + 1) ls (.double x.2 :: rest))) : W p l e R s m args below meth c H locs cells slots Q (F0 m pc ls (.int 0 :: .ref (ad 171) :: rest)) :=
  va_dald E.1 E.2.1 hU.1 hP (sIx r 171) 4 (cA := G 4) (n := 1) (f := fun _ => x.2) (by rw [sWl_get hq]; rfl) rfl (s_in (by decide)) hdg k
theorem s_lcmp0 (E : CallFix p m c cc nL s args Ts own) {y z : Int64} (hyz : y = z) (hdg : decode cc pc = .ok (.lcmp, 1))
    (k : W p l e R s m args below meth c H locs cells slots Q (F0 m (pc + 1) ls (.int 0 :: rest))) : W p l e R s m args below meth c H locs cells slots Q (F0 m pc ls (.long z :: .long y :: rest)) := by
  subst hyz
  obtain ⟨hx, hb, -, -, -⟩ := E
  intro T hT X
  obtain ⟨t, a, b⟩ := k T hT X
  refine ⟨t, ?_, b⟩
  jvm_step X.here [X.here.top, hx, hb, hdg]
  exact a
/-- an argument out of the script: aload_0, iload 5, iconst, iadd, iaload -/
theorem s_arg (E : CallFix p m c cc nL s args Ts own) {b L : Nat} {xs : Nat → Int32} (hX : va_X b L xs s H0) (hbl : b < H0.size) (hbA : ¬ A b) (hS : va_S A H0 H locs) {lv : List (Nat × Value)} (hl : lv_has ls nL lv) {k0 k5 i kk : Nat} {cst : Int} (h0 : lv[k0]? = some (0, .ref b)) (h5 : lv[k5]? = some (5, .int (Int32.ofNat i))) (hc : Int32.ofInt cst = Int32.ofNat kk) (hi : i + kk < L) (hL : L ≤ 2560)
    (d0 : decode cc pc = .ok (.aload_n 0, 1)) (d1 : decode cc (pc + 1) = .ok (.iload 5, 2)) (d3 : decode cc (pc + 3) = .ok (.iconst cst, 1)) (d4 : decode cc (pc + 4) = .ok (.iadd, 1)) (d5 : decode cc (pc + 5) = .ok (.iaload, 1))
    (k : W p l e R s m args below meth c H locs cells slots Q (F0 m (pc + 6) ls (.int (xs (i + kk)) :: rest))) : W p l e R s m args below meth c H locs cells slots Q (F0 m pc ls rest) := by
  have e1 : Int32.ofNat i + Int32.ofNat kk = Int32.ofNat (i + kk) := (Int32.ofNat_add i kk).symm
  have hn : (Int32.ofNat (i + kk)).toInt = ((i + kk : Nat) : Int) := Int32.toInt_ofNat_of_lt (by omega)
  have e2 : (Int32.ofNat (i + kk)).toNatClampNeg = i + kk := by
    show (Int32.ofNat (i + kk)).toInt.toNat = i + kk
    rw [hn]; rfl
  refine lv_aload_n E.1 E.2.1 d0 rfl (lv_at hl k0 h0) ?_
  refine lv_iload E.1 E.2.1 d1 (lv_at hl k5 h5) ?_
  refine lv_iconst E.1 E.2.1 d3 hc ?_
  refine lv_iadd E.1 E.2.1 d4 ?_
  rw [e1]
  refine va_sld E.1 E.2.1 hX hbl hbA hS (s_in (by rw [hn]; omega)) d5 ?_
  rw [e2]
  exact k
/-- is it 0: ifeq, iconst_1, goto, iconst_0 -/
theorem s_b01 (E : CallFix p m c cc nL s args Ts own) {y : Int32} (d0 : decode cc pc = .ok (.ifCond .eq 7, 3)) (d3 : decode cc (pc + 3) = .ok (.iconst 1, 1)) (d4 : decode cc (pc + 4) = .ok (.goto 4, 3)) (d7 : decode cc (pc + 7) = .ok (.iconst 0, 1))
    (k : W p l e R s m args below meth c H locs cells slots Q (F0 m (pc + 8) ls (.int (if y = 0 then 0 else 1) :: rest))) : W p l e R s m args below meth c H locs cells slots Q (F0 m pc ls (.int y :: rest)) := by
  refine lv_if_eq (tgt := pc + 7) E.1 E.2.1 d0 (by omega) (fun h => ?_) (fun h => ?_)
  · rw [if_pos h] at k
    exact lv_iconst E.1 E.2.1 d7 rfl k
  · rw [if_neg h] at k
    refine lv_iconst E.1 E.2.1 d3 rfl ?_
    exact lv_goto (tgt := pc + 8) E.1 E.2.1 d4 (by omega) k
theorem sc_D (hB : sB D G A H0 ad r v n x H locs) (hA0 : ∀ q, H0.size ≤ q → A q) {o : Option (UInt64 × sV)} {f : UInt64 × sV → Option ρ} {a : Array Value} (hf : o.bind f = some res) (hr : ∀ q0, o = some q0 → va_Run p l e R s m args below meth c H locs cells slots 0 0 (F0 m pc ls st0) rest (sQD D G ad r n x H.size q0 a) (sA ad r n H.size))
    (kk : ∀ (y : UInt64) (v : sV), f (y, v) = some res → ∀ (H : Heap) (locs : List Loc), sB D G A H0 ad r v n x H locs → W p l e R s m args below meth c H locs cells slots Q (F0 m (pc + 3) ls (.double y :: rest))) : W p l e R s m args below meth c H locs cells slots Q (F0 m pc ls st0) := by
  obtain ⟨⟨y0, v0⟩, h0, hf⟩ := bi_e hf
  refine va_calld (hr _ h0) hB.2.2 (fun q _ h => sA_in hB hA0 q h) (sA_in hB hA0) (fun r1 u t H1 locs1 ht hvm hw hb hz hk hS => ?_)
  have hw : r1 = y0 := hw
  subst hw
  exact kk _ v0 hf H1 locs1 ⟨by rw [← ht]; exact hb, sD_any hB.2.1, hS⟩
theorem sc_F (hB : sB D G A H0 ad r v n x H locs) (hA0 : ∀ q, H0.size ≤ q → A q) {o : Option (UInt32 × sV)} {f : UInt32 × sV → Option ρ} {a : Array Value} (hf : o.bind f = some res) (hr : ∀ q0, o = some q0 → va_Run p l e R s m args below meth c H locs cells slots 0 0 (F0 m pc ls st0) rest (sQF D G ad r n x H.size q0 a) (sA ad r n H.size))
    (kk : ∀ (y : UInt32) (v : sV), f (y, v) = some res → ∀ (H : Heap) (locs : List Loc), sB D G A H0 ad r v n x H locs → W p l e R s m args below meth c H locs cells slots Q (F0 m (pc + 3) ls (.float y :: rest))) : W p l e R s m args below meth c H locs cells slots Q (F0 m pc ls st0) := by
  obtain ⟨⟨y0, v0⟩, h0, hf⟩ := bi_e hf
  refine va_callf (hr _ h0) hB.2.2 (fun q _ h => sA_in hB hA0 q h) (sA_in hB hA0) (fun r1 u t H1 locs1 ht hvm hw hb hz hk hS => ?_)
  have hw : r1 = y0 := hw
  subst hw
  exact kk _ v0 hf H1 locs1 ⟨by rw [← ht]; exact hb, sD_any hB.2.1, hS⟩
end SLW
