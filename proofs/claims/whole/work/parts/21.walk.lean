section
variable {p : Program} {l : Launch} {e : Env} {s : State} {m : MethodId} {args : Array Value} {below : List Frame} {meth : Method} {c : Code}
variable {D : va_G} {G : Nat → ClassId} {ad : Nat → Nat} {r : sR} {n : Nat} {x : Int64 × UInt64}
abbrev rmX7_flow : Room := { frames := 6, cells := 0, slots := 0, locals := 141 }
set_option maxRecDepth 100000 in
set_option maxHeartbeats 4000000 in
theorem mX7_flow (l : Launch) (K : Nat) (D : va_G) (G : Nat → ClassId) (ad : Nat → Nat) (r : sR) (v : sV) (n : Nat) (x : Int64 × UInt64) (hsh : sSh r) (hn : 172 ≤ n) (x1 : Int32) (x2 : Int32) (x3 : Int32) : sMI l yX7_flow (.code yX7_flow cX7_flow 4 (some .int) :: wsL_law) rmX7_flow D G ad r v n x [.ref (ad 157), .int x1, .int x2, .int x3] (fX7_flow K x1 x2 x3 v) := by
  intro sz res hf
  refine Met.ofW (cc := cX7_flow) (maxL := 4) (ret := (some .int)) (by decide) rfl ?_
  intro p e s m args below meth c s₁ B hml hv
  obtain ⟨rfl, rfl, hU, hP, hD⟩ := hv
  have hx := B.exec
  have hb := B.bytes
  have hrt := B.returns
  have hts : ∀ w ∈ wsL_law, w.before _ s = true := fun w hw => atoms_spec (ws := .code yX7_flow cX7_flow 4 (some .int) :: wsL_law) B.pre w (List.mem_cons_of_mem _ hw)
  have hlocks := B.notSynchronized
  have E : CallFix p m c cX7_flow 4 s ([.ref (ad 157), .int x1, .int x2, .int x3] : List Value).toArray wsL_law RX7 := ⟨hx, hb, hml, findClass_of_methodNamed B.named, hts⟩
  have hB : sB D G (sA ad r n s.heap.size) s.heap ad r v n x s.heap [] := ⟨hP, sD_self hD, va_S.rf⟩
  have hl := lv_entry ([.ref (ad 157), .int x1, .int x2, .int x3]) (n := 4) (Nat.le_of_ble_eq_true rfl)
  rw [lg_entry_eq]
  generalize (lg_sl ([.ref (ad 157), .int x1, .int x2, .int x3]) ++ List.replicate (4 - (lg_sl ([.ref (ad 157), .int x1, .int x2, .int x3])).length) Slot.unset).toArray = ls at hl ⊢
  have hl : lv_has ls 4 [(0, .ref (ad 157)), (1, .int x1), (2, .int x2), (3, .int x3)] := hl
  have hf := (fX7_flow.eq_1 ..).symm.trans hf
  refine lv_aload_n hx hb dX7_flow_0 rfl (lv_at hl 0 rfl) ?_
  refine lv_aload_n hx hb dX7_flow_1 rfl (lv_at hl 0 rfl) ?_
  refine lv_iload_n hx hb dX7_flow_2 rfl (lv_at hl 1 rfl) ?_
  refine lv_iload_n hx hb dX7_flow_3 rfl (lv_at hl 2 rfl) ?_
  refine lv_iload_n hx hb dX7_flow_4 rfl (lv_at hl 3 rfl) ?_
  refine sc_R hf (rV_R (As := [.int x1, .int x2, .int x3]) (rest := [.ref (ad 157)]) E hU hB.1 sc9 (slt hsh hn 157 rfl) rfl (mX7_wrongGoal l D G ad r _ n x hsh hn x1 x2 x3) (cwGV 3 okX7_wrongGoal wmX7_108 hts rfl rfl ⟨Nat.le_of_ble_eq_true rfl, Nat.le_of_ble_eq_true rfl⟩) rfl hl.1 (Nat.le_of_ble_eq_true rfl) dX7_flow_5 ⟨Nat.zero_le _, Nat.zero_le _⟩ rfl) (fun y1 hf => ?_)
  refine s_putI (k := 6) (ty1 := .int) E hU hB sc9 (slt hsh hn 157 rfl) rfl inlX7 (Nat.le_of_ble_eq_true rfl) rfl rfl wkX7_47 rfl rfl rfl rfl dX7_flow_8 hf (fun v2 hf H locs hB => ?_)
  refine lv_aload_n hx hb dX7_flow_11 rfl (lv_at hl 0 rfl) ?_
  refine s_getI (k := 6) E hU hB.1 sc9 (slt hsh hn 157 rfl) rfl inlX7 (Nat.le_of_ble_eq_true rfl) rfl rfl wkX7_47 dX7_flow_12 ?_
  refine lv_if_ne (tgt := 40) hx hb dX7_flow_15 rfl (fun hc => ?_) (fun hc => ?_)
  · have hf := ite_f hf hc
    refine lv_iconst (v := 0) hx hb dX7_flow_40 rfl ?_
    exact s_iretW E hrt hlocks hB hf dX7_flow_41
  · have hf := ite_t hf hc
    refine lv_aload_n hx hb dX7_flow_18 rfl (lv_at hl 0 rfl) ?_
    refine lv_aload_n hx hb dX7_flow_19 rfl (lv_at hl 0 rfl) ?_
    refine s_getR (k := 0) (t := 158) E hU hB.1 sc9 (slt hsh hn 157 rfl) rfl inlX7 (Nat.le_of_ble_eq_true rfl) rfl rfl wkX7_9 (hsh.1 157 0 158 rfl) dX7_flow_20 ?_
    refine lv_sipush (v := 280) hx hb dX7_flow_23 rfl ?_
    refine lv_iload_n hx hb dX7_flow_26 rfl (lv_at hl 1 rfl) ?_
    refine lv_iadd hx hb dX7_flow_27 ?_
    refine s_iald E hU hB.1 (slt hsh hn 158 rfl) rfl dX7_flow_28 hf (fun y3 hf => ?_)
    refine lv_iload_n hx hb dX7_flow_29 rfl (lv_at hl 2 rfl) ?_
    refine lv_iload_n hx hb dX7_flow_30 rfl (lv_at hl 3 rfl) ?_
    refine sc_R hf (rS_S (As := [.int x2, .int x3]) (rest := [.int y3, .ref (ad 157)]) E (mX7_cellAt l x2 x3) (cwGS 2 okX7_cellAt wmX7_66 hts rfl rfl ⟨Nat.le_of_ble_eq_true rfl, Nat.le_of_ble_eq_true rfl⟩) rfl hl.1 (Nat.le_of_ble_eq_true rfl) dX7_flow_31 ⟨Nat.zero_le _, Nat.zero_le _⟩ rfl) (fun y4 hf => ?_)
    refine sc_I hB (fun q h => Or.inr h) hf (fun q9 h9 => rV_W (As := [.int y3, .int y4]) (rest := []) E hU hB sc9 (slt hsh hn 157 rfl) rfl ((mX7_flowOf l K D G ad r _ n x hsh hn y3 y4) _ _ h9) (cwGV 2 okX7_flowOf wmX7_112 hts rfl rfl ⟨Nat.le_of_ble_eq_true rfl, Nat.le_of_ble_eq_true rfl⟩) rfl hl.1 (Nat.le_of_ble_eq_true rfl) dX7_flow_34 ⟨Nat.zero_le _, Nat.zero_le _⟩ rfl) (fun y6 v5 hf H locs hB => ?_)
    refine lv_goto (tgt := 41) hx hb dX7_flow_37 rfl ?_
    exact s_iretW E hrt hlocks hB hf dX7_flow_41
abbrev rmX7_steps : Room := { frames := 6, cells := 0, slots := 0, locals := 141 }
set_option maxRecDepth 100000 in
set_option maxHeartbeats 4000000 in
theorem lX7_steps_55 {K : Nat} {x5 : Int32} {res : (Int32 × sV)} (E : CallFix p m c cX7_steps 7 s args wsL_law RX7) (hlocks : meth.locks = false) (hrt : meth.sig.returnType = (some .int)) (hU : sU D G s) (hsh : sSh r) (hn : 172 ≤ n) :
    ∀ (k : Nat) (x4 : Int32) (x6 : Int32) (v : sV) (H : Heap) (locs : List Loc) (ls : Array Slot), fx3 (gX7_steps_55 K x5) k x4 x6 v = some res → sB D G (sA ad r n s.heap.size) s.heap ad r v n x H locs → lv_has ls 7 [(0, .ref (ad 157)), (4, .int x4), (5, .int x5), (6, .int x6)] → W p l e rmX7_steps s m args below meth c H locs 0 0 (MQ below (sQI D G ad r n x s.heap.size res) args s 0 0 (sA ad r n s.heap.size)) (F0 m 55 ls []) := by
  have hx := E.1
  have hb := E.2.1
  have hts := E.2.2.2.2
  intro k
  induction k with
  | zero =>
    intro x4 x6 v H locs ls hf hB hl
    exact fx3_z hf
  | succ k ih =>
    intro x4 x6 v H locs ls hf hB hl
    have hf := (gX7_steps_55.eq_1 ..).symm.trans hf
    refine lv_iload hx hb dX7_steps_55 (lv_at hl 1 rfl) ?_
    refine lv_iload hx hb dX7_steps_57 (lv_at hl 2 rfl) ?_
    refine lv_icmp_eq (tgt := 83) hx hb dX7_steps_59 rfl (fun hc => ?_) (fun hc => ?_)
    · have hf := ite_t hf hc
      refine lv_iload hx hb dX7_steps_83 (lv_at hl 3 rfl) ?_
      exact s_iretW E hrt hlocks hB hf dX7_steps_85
    · have hf := ite_f hf hc
      refine lv_iload hx hb dX7_steps_62 (lv_at hl 1 rfl) ?_
      refine lv_aload_n hx hb dX7_steps_64 rfl (lv_at hl 0 rfl) ?_
      refine lv_iload hx hb dX7_steps_65 (lv_at hl 2 rfl) ?_
      refine lv_iload hx hb dX7_steps_67 (lv_at hl 1 rfl) ?_
      refine sc_I hB (fun q h => Or.inr h) hf (fun q9 h9 => rV_W (As := [.int x5, .int x4]) (rest := [.int x4]) E hU hB sc9 (slt hsh hn 157 rfl) rfl ((mX7_flowOf l K D G ad r _ n x hsh hn x5 x4) _ _ h9) (cwGV 2 okX7_flowOf wmX7_112 hts rfl rfl ⟨Nat.le_of_ble_eq_true rfl, Nat.le_of_ble_eq_true rfl⟩) rfl hl.1 (Nat.le_of_ble_eq_true rfl) dX7_steps_69 ⟨Nat.zero_le _, Nat.zero_le _⟩ rfl) (fun y8 v7 hf H locs hB => ?_)
      refine sc_R hf (rS_S (As := [.int x4, .int y8]) (rest := []) E (mX7_neighbor l x4 y8) (cwGS 2 okX7_neighbor wmX7_76 hts rfl rfl ⟨Nat.le_of_ble_eq_true rfl, Nat.le_of_ble_eq_true rfl⟩) rfl hl.1 (Nat.le_of_ble_eq_true rfl) dX7_steps_72 ⟨Nat.zero_le _, Nat.zero_le _⟩ rfl) (fun y9 hf => ?_)
      refine lv_istore (lv' := [(4, .int y9), (0, .ref (ad 157)), (5, .int x5), (6, .int x6)]) hx hb dX7_steps_75 hl (Nat.le_of_ble_eq_true rfl) rfl (fun ls hl => ?_)
      obtain ⟨z10, ez9, hf⟩ := nm_x hf
      refine lv_iinc (v := z10) (lv' := [(6, .int z10), (4, .int y9), (0, .ref (ad 157)), (5, .int x5)]) hx hb dX7_steps_77 hl (k := 3) rfl (by rw [ez9]; rfl) (Nat.le_of_ble_eq_true rfl) rfl (fun ls hl => ?_)
      refine lv_goto (tgt := 55) hx hb dX7_steps_80 rfl ?_
      exact ih _ _ _ _ _ _ hf hB (lv_sub hl [2, 1, 3, 0] rfl)
set_option maxRecDepth 100000 in
set_option maxHeartbeats 4000000 in
theorem mX7_steps (l : Launch) (K : Nat) (D : va_G) (G : Nat → ClassId) (ad : Nat → Nat) (r : sR) (v : sV) (n : Nat) (x : Int64 × UInt64) (hsh : sSh r) (hn : 172 ≤ n) (x1 : Int32) (x2 : Int32) (x3 : Int32) : sMI l yX7_steps (.code yX7_steps cX7_steps 7 (some .int) :: wsL_law) rmX7_steps D G ad r v n x [.ref (ad 157), .int x1, .int x2, .int x3] (fX7_steps K x1 x2 x3 v) := by
  intro sz res hf
  refine Met.ofW (cc := cX7_steps) (maxL := 7) (ret := (some .int)) (by decide) rfl ?_
  intro p e s m args below meth c s₁ B hml hv
  obtain ⟨rfl, rfl, hU, hP, hD⟩ := hv
  have hx := B.exec
  have hb := B.bytes
  have hrt := B.returns
  have hts : ∀ w ∈ wsL_law, w.before _ s = true := fun w hw => atoms_spec (ws := .code yX7_steps cX7_steps 7 (some .int) :: wsL_law) B.pre w (List.mem_cons_of_mem _ hw)
  have hlocks := B.notSynchronized
  have E : CallFix p m c cX7_steps 7 s ([.ref (ad 157), .int x1, .int x2, .int x3] : List Value).toArray wsL_law RX7 := ⟨hx, hb, hml, findClass_of_methodNamed B.named, hts⟩
  have hB : sB D G (sA ad r n s.heap.size) s.heap ad r v n x s.heap [] := ⟨hP, sD_self hD, va_S.rf⟩
  have hl := lv_entry ([.ref (ad 157), .int x1, .int x2, .int x3]) (n := 7) (Nat.le_of_ble_eq_true rfl)
  rw [lg_entry_eq]
  generalize (lg_sl ([.ref (ad 157), .int x1, .int x2, .int x3]) ++ List.replicate (7 - (lg_sl ([.ref (ad 157), .int x1, .int x2, .int x3])).length) Slot.unset).toArray = ls at hl ⊢
  have hl : lv_has ls 7 [(0, .ref (ad 157)), (1, .int x1), (2, .int x2), (3, .int x3)] := hl
  have hf := (fX7_steps.eq_1 ..).symm.trans hf
  refine lv_aload_n hx hb dX7_steps_0 rfl (lv_at hl 0 rfl) ?_
  refine lv_aload_n hx hb dX7_steps_1 rfl (lv_at hl 0 rfl) ?_
  refine lv_iload_n hx hb dX7_steps_2 rfl (lv_at hl 1 rfl) ?_
  refine lv_iload_n hx hb dX7_steps_3 rfl (lv_at hl 2 rfl) ?_
  refine lv_iload_n hx hb dX7_steps_4 rfl (lv_at hl 3 rfl) ?_
  refine sc_R hf (rV_R (As := [.int x1, .int x2, .int x3]) (rest := [.ref (ad 157)]) E hU hB.1 sc9 (slt hsh hn 157 rfl) rfl (mX7_wrongGoal l D G ad r _ n x hsh hn x1 x2 x3) (cwGV 3 okX7_wrongGoal wmX7_108 hts rfl rfl ⟨Nat.le_of_ble_eq_true rfl, Nat.le_of_ble_eq_true rfl⟩) rfl hl.1 (Nat.le_of_ble_eq_true rfl) dX7_steps_5 ⟨Nat.zero_le _, Nat.zero_le _⟩ rfl) (fun y1 hf => ?_)
  refine s_putI (k := 6) (ty1 := .int) E hU hB sc9 (slt hsh hn 157 rfl) rfl inlX7 (Nat.le_of_ble_eq_true rfl) rfl rfl wkX7_47 rfl rfl rfl rfl dX7_steps_8 hf (fun v2 hf H locs hB => ?_)
  refine lv_aload_n hx hb dX7_steps_11 rfl (lv_at hl 0 rfl) ?_
  refine s_getI (k := 6) E hU hB.1 sc9 (slt hsh hn 157 rfl) rfl inlX7 (Nat.le_of_ble_eq_true rfl) rfl rfl wkX7_47 dX7_steps_12 ?_
  refine lv_if_eq (tgt := 20) hx hb dX7_steps_15 rfl (fun hc => ?_) (fun hc => ?_)
  · have hf := ite_t hf hc
    refine lv_iload_n hx hb dX7_steps_20 rfl (lv_at hl 2 rfl) ?_
    refine lv_iload_n hx hb dX7_steps_21 rfl (lv_at hl 3 rfl) ?_
    refine sc_R hf (rS_S (As := [.int x2, .int x3]) (rest := []) E (mX7_cellAt l x2 x3) (cwGS 2 okX7_cellAt wmX7_66 hts rfl rfl ⟨Nat.le_of_ble_eq_true rfl, Nat.le_of_ble_eq_true rfl⟩) rfl hl.1 (Nat.le_of_ble_eq_true rfl) dX7_steps_22 ⟨Nat.zero_le _, Nat.zero_le _⟩ rfl) (fun y3 hf => ?_)
    refine lv_istore (lv' := [(4, .int y3), (0, .ref (ad 157)), (1, .int x1), (2, .int x2), (3, .int x3)]) hx hb dX7_steps_25 hl (Nat.le_of_ble_eq_true rfl) rfl (fun ls hl => ?_)
    refine lv_aload_n hx hb dX7_steps_27 rfl (lv_at hl 1 rfl) ?_
    refine s_getR (k := 0) (t := 158) E hU hB.1 sc9 (slt hsh hn 157 rfl) rfl inlX7 (Nat.le_of_ble_eq_true rfl) rfl rfl wkX7_9 (hsh.1 157 0 158 rfl) dX7_steps_28 ?_
    refine lv_sipush (v := 280) hx hb dX7_steps_31 rfl ?_
    refine lv_iload_n hx hb dX7_steps_34 rfl (lv_at hl 2 rfl) ?_
    refine lv_iadd hx hb dX7_steps_35 ?_
    refine s_iald E hU hB.1 (slt hsh hn 158 rfl) rfl dX7_steps_36 hf (fun y4 hf => ?_)
    refine lv_istore (lv' := [(5, .int y4), (4, .int y3), (0, .ref (ad 157)), (1, .int x1), (2, .int x2), (3, .int x3)]) hx hb dX7_steps_37 hl (Nat.le_of_ble_eq_true rfl) rfl (fun ls hl => ?_)
    refine lv_aload_n hx hb dX7_steps_39 rfl (lv_at hl 2 rfl) ?_
    refine lv_iload hx hb dX7_steps_40 (lv_at hl 0 rfl) ?_
    refine lv_iload hx hb dX7_steps_42 (lv_at hl 1 rfl) ?_
    refine sc_I hB (fun q h => Or.inr h) hf (fun q9 h9 => rV_W (As := [.int y4, .int y3]) (rest := []) E hU hB sc9 (slt hsh hn 157 rfl) rfl ((mX7_far l K D G ad r _ n x hsh hn y4 y3) _ _ h9) (cwGV 2 okX7_far wmX7_87 hts rfl rfl ⟨Nat.le_of_ble_eq_true rfl, Nat.le_of_ble_eq_true rfl⟩) rfl hl.1 (Nat.le_of_ble_eq_true rfl) dX7_steps_44 ⟨Nat.zero_le _, Nat.zero_le _⟩ rfl) (fun y6 v5 hf H locs hB => ?_)
    refine lv_if_ge (tgt := 52) hx hb dX7_steps_47 rfl (fun hc => ?_) (fun hc => ?_)
    · have hf := ite_t hf hc
      refine lv_iconst (v := 0) hx hb dX7_steps_52 rfl ?_
      refine lv_istore (lv' := [(6, .int 0), (5, .int y4), (4, .int y3), (0, .ref (ad 157)), (1, .int x1), (2, .int x2), (3, .int x3)]) hx hb dX7_steps_53 hl (Nat.le_of_ble_eq_true rfl) rfl (fun ls hl => ?_)
      exact lX7_steps_55 E hlocks hrt hU hsh hn _ _ _ _ _ _ _ hf hB (lv_sub hl [3, 2, 1, 0] rfl)
    · have hf := ite_f hf hc
      refine lv_iconst (v := (-1)) hx hb dX7_steps_50 rfl ?_
      exact s_iretW E hrt hlocks hB hf dX7_steps_51
  · have hf := ite_f hf hc
    refine lv_iconst (v := 0) hx hb dX7_steps_18 rfl ?_
    exact s_iretW E hrt hlocks hB hf dX7_steps_19
abbrev rmX7_setPatience : Room := { frames := 1, cells := 0, slots := 0, locals := 22 }
set_option maxRecDepth 100000 in
set_option maxHeartbeats 4000000 in
theorem wX7_setPatience_16 {K : Nat} {x1 : Int32} {t1 : Int32} {res : (Int32 × sV)} (E : CallFix p m c cX7_setPatience 3 s args wsL_law RX7) (hlocks : meth.locks = false) (hrt : meth.sig.returnType = (some .int)) (hU : sU D G s) (hsh : sSh r) (hn : 172 ≤ n) {v : sV} {H : Heap} {locs : List Loc} (hB : sB D G (sA ad r n s.heap.size) s.heap ad r v n x H locs) {ls : Array Slot} (hf : bX7_setPatience_16 K x1 t1 v = some res) (hl : lv_has ls 3 [(0, .ref (ad 157)), (1, .int x1)]) :
    W p l e rmX7_setPatience s m args below meth c H locs 0 0 (MQ below (sQI D G ad r n x s.heap.size res) args s 0 0 (sA ad r n s.heap.size)) (F0 m 16 ls [.int t1, .ref (ad 157)]) := by
  have hx := E.1
  have hb := E.2.1
  have hts := E.2.2.2.2
  have hf := (bX7_setPatience_16.eq_1 ..).symm.trans hf
  refine s_putI (k := 6) (ty1 := .int) E hU hB sc9 (slt hsh hn 157 rfl) rfl inlX7 (Nat.le_of_ble_eq_true rfl) rfl rfl wkX7_47 rfl rfl rfl rfl dX7_setPatience_16 hf (fun v2 hf H locs hB => ?_)
  refine lv_aload_n hx hb dX7_setPatience_19 rfl (lv_at hl 0 rfl) ?_
  refine s_getI (k := 6) E hU hB.1 sc9 (slt hsh hn 157 rfl) rfl inlX7 (Nat.le_of_ble_eq_true rfl) rfl rfl wkX7_47 dX7_setPatience_20 ?_
  refine lv_if_eq (tgt := 28) hx hb dX7_setPatience_23 rfl (fun hc => ?_) (fun hc => ?_)
  · have hf := ite_t hf hc
    refine lv_aload_n hx hb dX7_setPatience_28 rfl (lv_at hl 0 rfl) ?_
    refine sc_V hB (fun q h => Or.inr h) hf (fun q9 h9 => rV_W (As := []) (rest := []) E hU hB sc9 (slt hsh hn 157 rfl) rfl ((mX7_keeps l K D G ad r _ n x hsh hn) _ _ h9) (cwGV 0 okX7_keeps wmX7_96 hts rfl rfl ⟨Nat.le_of_ble_eq_true rfl, Nat.le_of_ble_eq_true rfl⟩) rfl hl.1 (Nat.le_of_ble_eq_true rfl) dX7_setPatience_29 ⟨Nat.zero_le _, Nat.zero_le _⟩ rfl) (fun v3 hf H locs hB => ?_)
    refine lv_aload_n hx hb dX7_setPatience_32 rfl (lv_at hl 0 rfl) ?_
    refine s_getR (k := 0) (t := 158) E hU hB.1 sc9 (slt hsh hn 157 rfl) rfl inlX7 (Nat.le_of_ble_eq_true rfl) rfl rfl wkX7_9 (hsh.1 157 0 158 rfl) dX7_setPatience_33 ?_
    refine lv_sipush (v := 284) hx hb dX7_setPatience_36 rfl ?_
    refine s_iald E hU hB.1 (slt hsh hn 158 rfl) rfl dX7_setPatience_39 hf (fun y4 hf => ?_)
    refine lv_istore_n (lv' := [(2, .int y4), (0, .ref (ad 157)), (1, .int x1)]) hx hb dX7_setPatience_40 rfl hl (Nat.le_of_ble_eq_true rfl) rfl (fun ls hl => ?_)
    refine lv_aload_n hx hb dX7_setPatience_41 rfl (lv_at hl 1 rfl) ?_
    refine s_getR (k := 0) (t := 158) E hU hB.1 sc9 (slt hsh hn 157 rfl) rfl inlX7 (Nat.le_of_ble_eq_true rfl) rfl rfl wkX7_9 (hsh.1 157 0 158 rfl) dX7_setPatience_42 ?_
    refine lv_sipush (v := 284) hx hb dX7_setPatience_45 rfl ?_
    refine lv_iload_n hx hb dX7_setPatience_48 rfl (lv_at hl 2 rfl) ?_
    refine s_iast E hU hB (slt hsh hn 158 rfl) rfl dX7_setPatience_49 hf (fun v5 hf H locs hB => ?_)
    refine lv_iload_n hx hb dX7_setPatience_50 rfl (lv_at hl 0 rfl) ?_
    exact s_iretW E hrt hlocks hB hf dX7_setPatience_51
  · have hf := ite_f hf hc
    refine lv_iconst (v := 0) hx hb dX7_setPatience_26 rfl ?_
    exact s_iretW E hrt hlocks hB hf dX7_setPatience_27
set_option maxRecDepth 100000 in
set_option maxHeartbeats 4000000 in
theorem mX7_setPatience (l : Launch) (K : Nat) (D : va_G) (G : Nat → ClassId) (ad : Nat → Nat) (r : sR) (v : sV) (n : Nat) (x : Int64 × UInt64) (hsh : sSh r) (hn : 172 ≤ n) (x1 : Int32) : sMI l yX7_setPatience (.code yX7_setPatience cX7_setPatience 3 (some .int) :: wsL_law) rmX7_setPatience D G ad r v n x [.ref (ad 157), .int x1] (fX7_setPatience K x1 v) := by
  intro sz res hf
  refine Met.ofW (cc := cX7_setPatience) (maxL := 3) (ret := (some .int)) (by decide) rfl ?_
  intro p e s m args below meth c s₁ B hml hv
  obtain ⟨rfl, rfl, hU, hP, hD⟩ := hv
  have hx := B.exec
  have hb := B.bytes
  have hrt := B.returns
  have hts : ∀ w ∈ wsL_law, w.before _ s = true := fun w hw => atoms_spec (ws := .code yX7_setPatience cX7_setPatience 3 (some .int) :: wsL_law) B.pre w (List.mem_cons_of_mem _ hw)
  have hlocks := B.notSynchronized
  have E : CallFix p m c cX7_setPatience 3 s ([.ref (ad 157), .int x1] : List Value).toArray wsL_law RX7 := ⟨hx, hb, hml, findClass_of_methodNamed B.named, hts⟩
  have hB : sB D G (sA ad r n s.heap.size) s.heap ad r v n x s.heap [] := ⟨hP, sD_self hD, va_S.rf⟩
  have hl := lv_entry ([.ref (ad 157), .int x1]) (n := 3) (Nat.le_of_ble_eq_true rfl)
  rw [lg_entry_eq]
  generalize (lg_sl ([.ref (ad 157), .int x1]) ++ List.replicate (3 - (lg_sl ([.ref (ad 157), .int x1])).length) Slot.unset).toArray = ls at hl ⊢
  have hl : lv_has ls 3 [(0, .ref (ad 157)), (1, .int x1)] := hl
  have hf := (fX7_setPatience.eq_1 ..).symm.trans hf
  refine lv_aload_n hx hb dX7_setPatience_0 rfl (lv_at hl 0 rfl) ?_
  refine lv_iload_n hx hb dX7_setPatience_1 rfl (lv_at hl 1 rfl) ?_
  refine lv_iconst (v := 0) hx hb dX7_setPatience_2 rfl ?_
  refine lv_bipush (v := 9) hx hb dX7_setPatience_3 rfl ?_
  refine sc_R hf (rS_S (As := [.int x1, .int 0, .int 9]) (rest := [.ref (ad 157)]) E (mX7_isIn l x1 0 9) (cwGS 3 okX7_isIn wmX7_51 hts rfl rfl ⟨Nat.le_of_ble_eq_true rfl, Nat.le_of_ble_eq_true rfl⟩) rfl hl.1 (Nat.le_of_ble_eq_true rfl) dX7_setPatience_5 ⟨Nat.zero_le _, Nat.zero_le _⟩ rfl) (fun y1 hf => ?_)
  refine lv_if_eq (tgt := 15) hx hb dX7_setPatience_8 rfl (fun hc => ?_) (fun hc => ?_)
  · have hf := ite_t hf hc
    refine lv_iconst (v := 1) hx hb dX7_setPatience_15 rfl ?_
    exact wX7_setPatience_16 E hlocks hrt hU hsh hn hB hf (lv_sub hl [0, 1] rfl)
  · have hf := ite_f hf hc
    refine lv_iconst (v := 0) hx hb dX7_setPatience_11 rfl ?_
    refine lv_goto (tgt := 16) hx hb dX7_setPatience_12 rfl ?_
    exact wX7_setPatience_16 E hlocks hrt hU hsh hn hB hf (lv_sub hl [0, 1] rfl)
abbrev rmX7_put : Room := { frames := 0, cells := 0, slots := 0, locals := 0 }
set_option maxRecDepth 100000 in
set_option maxHeartbeats 4000000 in
theorem mX7_put (l : Launch) (D : va_G) (G : Nat → ClassId) (ad : Nat → Nat) (r : sR) (v : sV) (n : Nat) (x : Int64 × UInt64) (hsh : sSh r) (hn : 172 ≤ n) (x1 : Int32) (x2 : Int32) (x3 : Int32) : sMV l yX7_put (.code yX7_put cX7_put 4 none :: wsL_law) rmX7_put D G ad r v n x [.ref (ad 157), .int x1, .int x2, .int x3] (fX7_put x1 x2 x3 v) := by
  intro sz res hf
  refine Met.ofW (cc := cX7_put) (maxL := 4) (ret := none) (by decide) rfl ?_
  intro p e s m args below meth c s₁ B hml hv
  obtain ⟨rfl, rfl, hU, hP, hD⟩ := hv
  have hx := B.exec
  have hb := B.bytes
  have hrt := B.returns
  have hts : ∀ w ∈ wsL_law, w.before _ s = true := fun w hw => atoms_spec (ws := .code yX7_put cX7_put 4 none :: wsL_law) B.pre w (List.mem_cons_of_mem _ hw)
  have hlocks := B.notSynchronized
  have E : CallFix p m c cX7_put 4 s ([.ref (ad 157), .int x1, .int x2, .int x3] : List Value).toArray wsL_law RX7 := ⟨hx, hb, hml, findClass_of_methodNamed B.named, hts⟩
  have hB : sB D G (sA ad r n s.heap.size) s.heap ad r v n x s.heap [] := ⟨hP, sD_self hD, va_S.rf⟩
  have hl := lv_entry ([.ref (ad 157), .int x1, .int x2, .int x3]) (n := 4) (Nat.le_of_ble_eq_true rfl)
  rw [lg_entry_eq]
  generalize (lg_sl ([.ref (ad 157), .int x1, .int x2, .int x3]) ++ List.replicate (4 - (lg_sl ([.ref (ad 157), .int x1, .int x2, .int x3])).length) Slot.unset).toArray = ls at hl ⊢
  have hl : lv_has ls 4 [(0, .ref (ad 157)), (1, .int x1), (2, .int x2), (3, .int x3)] := hl
  have hf := (fX7_put.eq_1 ..).symm.trans hf
  refine lv_aload_n hx hb dX7_put_0 rfl (lv_at hl 0 rfl) ?_
  refine s_getR (k := 0) (t := 158) E hU hB.1 sc9 (slt hsh hn 157 rfl) rfl inlX7 (Nat.le_of_ble_eq_true rfl) rfl rfl wkX7_9 (hsh.1 157 0 158 rfl) dX7_put_1 ?_
  refine lv_sipush (v := 290) hx hb dX7_put_4 rfl ?_
  refine lv_bipush (v := 9) hx hb dX7_put_7 rfl ?_
  refine lv_iload_n hx hb dX7_put_9 rfl (lv_at hl 1 rfl) ?_
  refine lv_imul hx hb dX7_put_10 ?_
  refine lv_iadd hx hb dX7_put_11 ?_
  refine lv_iload_n hx hb dX7_put_12 rfl (lv_at hl 2 rfl) ?_
  refine lv_iadd hx hb dX7_put_13 ?_
  refine lv_iload_n hx hb dX7_put_14 rfl (lv_at hl 3 rfl) ?_
  refine s_iast E hU hB (slt hsh hn 158 rfl) rfl dX7_put_15 hf (fun v1 hf H locs hB => ?_)
  exact s_vretW E hrt hlocks hB hf dX7_put_16
abbrev rmX7_many : Room := { frames := 2, cells := 0, slots := 0, locals := 43 }
set_option maxRecDepth 100000 in
set_option maxHeartbeats 4000000 in
theorem lX7_many_4 {K : Nat} {res : Int32} (E : CallFix p m c cX7_many 3 s args wsL_law RX7) (hlocks : meth.locks = false) (hrt : meth.sig.returnType = (some .int)) (hU : sU D G s) (hsh : sSh r) (hn : 172 ≤ n) {v : sV} (hP : va_P D vwCl (sWl G ad r v n x) s.heap) :
    ∀ (k : Nat) (x1 : Int32) (x2 : Int32) (ls : Array Slot), fx2 (gX7_many_4 K v) k x1 x2 = some res → lv_has ls 3 [(0, .ref (ad 157)), (1, .int x1), (2, .int x2)] → W p l e rmX7_many s m args below meth c s.heap [] 0 0 (MQ below (vp_Si (fun q => q = res)) args s 0 0 (fun _ => False)) (F0 m 4 ls []) := by
  have hx := E.1
  have hb := E.2.1
  have hts := E.2.2.2.2
  intro k
  induction k with
  | zero =>
    intro x1 x2 ls hf hl
    exact fx2_z hf
  | succ k ih =>
    intro x1 x2 ls hf hl
    have hf := (gX7_many_4.eq_1 ..).symm.trans hf
    refine lv_iload_n hx hb dX7_many_4 rfl (lv_at hl 2 rfl) ?_
    refine lv_bipush (v := 16) hx hb dX7_many_5 rfl ?_
    refine lv_icmp_ge (tgt := 32) hx hb dX7_many_7 rfl (fun hc => ?_) (fun hc => ?_)
    · have hf := ite_t hf hc
      refine lv_iload_n hx hb dX7_many_32 rfl (lv_at hl 1 rfl) ?_
      exact s_iretR E hrt hlocks hf dX7_many_33
    · have hf := ite_f hf hc
      refine lv_iload_n hx hb dX7_many_10 rfl (lv_at hl 1 rfl) ?_
      refine lv_aload_n hx hb dX7_many_11 rfl (lv_at hl 0 rfl) ?_
      refine lv_iload_n hx hb dX7_many_12 rfl (lv_at hl 2 rfl) ?_
      refine sc_R hf (rV_R (As := [.int x2]) (rest := [.int x1]) E hU hP sc9 (slt hsh hn 157 rfl) rfl (mX7_isAgent l D G ad r _ n x hsh hn x2) (cwGV 1 okX7_isAgent wmX7_102 hts rfl rfl ⟨Nat.le_of_ble_eq_true rfl, Nat.le_of_ble_eq_true rfl⟩) rfl hl.1 (Nat.le_of_ble_eq_true rfl) dX7_many_13 ⟨Nat.zero_le _, Nat.zero_le _⟩ rfl) (fun y1 hf => ?_)
      refine lv_if_eq (tgt := 23) hx hb dX7_many_16 rfl (fun hc => ?_) (fun hc => ?_)
      · have hf := ite_t hf hc
        refine lv_iconst (v := 0) hx hb dX7_many_23 rfl ?_
        refine lv_iadd hx hb dX7_many_24 ?_
        refine s_nm hf (fun z2 hf => ?_)
        refine lv_istore_n (lv' := [(1, .int z2), (0, .ref (ad 157)), (2, .int x2)]) hx hb dX7_many_25 rfl hl (Nat.le_of_ble_eq_true rfl) rfl (fun ls hl => ?_)
        obtain ⟨z3, ez9, hf⟩ := nm_x hf
        refine lv_iinc (v := z3) (lv' := [(2, .int z3), (1, .int z2), (0, .ref (ad 157))]) hx hb dX7_many_26 hl (k := 2) rfl (by rw [ez9]; rfl) (Nat.le_of_ble_eq_true rfl) rfl (fun ls hl => ?_)
        refine lv_goto (tgt := 4) hx hb dX7_many_29 rfl ?_
        exact ih _ _ _ hf (lv_sub hl [2, 1, 0] rfl)
      · have hf := ite_f hf hc
        refine lv_iconst (v := 1) hx hb dX7_many_19 rfl ?_
        refine lv_goto (tgt := 24) hx hb dX7_many_20 rfl ?_
        refine lv_iadd hx hb dX7_many_24 ?_
        refine s_nm hf (fun z4 hf => ?_)
        refine lv_istore_n (lv' := [(1, .int z4), (0, .ref (ad 157)), (2, .int x2)]) hx hb dX7_many_25 rfl hl (Nat.le_of_ble_eq_true rfl) rfl (fun ls hl => ?_)
        obtain ⟨z5, ez9, hf⟩ := nm_x hf
        refine lv_iinc (v := z5) (lv' := [(2, .int z5), (1, .int z4), (0, .ref (ad 157))]) hx hb dX7_many_26 hl (k := 2) rfl (by rw [ez9]; rfl) (Nat.le_of_ble_eq_true rfl) rfl (fun ls hl => ?_)
        refine lv_goto (tgt := 4) hx hb dX7_many_29 rfl ?_
        exact ih _ _ _ hf (lv_sub hl [2, 1, 0] rfl)
set_option maxRecDepth 100000 in
set_option maxHeartbeats 4000000 in
theorem mX7_many (l : Launch) (K : Nat) (D : va_G) (G : Nat → ClassId) (ad : Nat → Nat) (r : sR) (v : sV) (n : Nat) (x : Int64 × UInt64) (hsh : sSh r) (hn : 172 ≤ n) : sMR l yX7_many (.code yX7_many cX7_many 3 (some .int) :: wsL_law) rmX7_many D G ad r v n x [.ref (ad 157)] (fX7_many K v) := by
  intro res hf
  refine Met.ofW (cc := cX7_many) (maxL := 3) (ret := (some .int)) (by decide) rfl ?_
  intro p e s m args below meth c s₁ B hml hv
  obtain ⟨rfl, hU, hP⟩ := hv
  have hx := B.exec
  have hb := B.bytes
  have hrt := B.returns
  have hts : ∀ w ∈ wsL_law, w.before _ s = true := fun w hw => atoms_spec (ws := .code yX7_many cX7_many 3 (some .int) :: wsL_law) B.pre w (List.mem_cons_of_mem _ hw)
  have hlocks := B.notSynchronized
  have E : CallFix p m c cX7_many 3 s ([.ref (ad 157)] : List Value).toArray wsL_law RX7 := ⟨hx, hb, hml, findClass_of_methodNamed B.named, hts⟩
  have hl := lv_entry ([.ref (ad 157)]) (n := 3) (Nat.le_of_ble_eq_true rfl)
  rw [lg_entry_eq]
  generalize (lg_sl ([.ref (ad 157)]) ++ List.replicate (3 - (lg_sl ([.ref (ad 157)])).length) Slot.unset).toArray = ls at hl ⊢
  have hl : lv_has ls 3 [(0, .ref (ad 157))] := hl
  have hf := (fX7_many.eq_1 ..).symm.trans hf
  refine lv_iconst (v := 0) hx hb dX7_many_0 rfl ?_
  refine lv_istore_n (lv' := [(1, .int 0), (0, .ref (ad 157))]) hx hb dX7_many_1 rfl hl (Nat.le_of_ble_eq_true rfl) rfl (fun ls hl => ?_)
  refine lv_iconst (v := 0) hx hb dX7_many_2 rfl ?_
  refine lv_istore_n (lv' := [(2, .int 0), (1, .int 0), (0, .ref (ad 157))]) hx hb dX7_many_3 rfl hl (Nat.le_of_ble_eq_true rfl) rfl (fun ls hl => ?_)
  exact lX7_many_4 E hlocks hrt hU hsh hn hP _ _ _ _ hf (lv_sub hl [2, 1, 0] rfl)
abbrev rmX7_add : Room := { frames := 3, cells := 0, slots := 0, locals := 65 }
set_option maxRecDepth 100000 in
set_option maxHeartbeats 4000000 in
theorem lX7_add_127 {K : Nat} {x3 : Int32} {x4 : Int32} {x5 : Int32} {x6 : Int32} {res : (Int32 × sV)} (E : CallFix p m c cX7_add 8 s args wsL_law RX7) (hlocks : meth.locks = false) (hrt : meth.sig.returnType = (some .int)) (hU : sU D G s) (hsh : sSh r) (hn : 172 ≤ n) :
    ∀ (k : Nat) (x7 : Int32) (v : sV) (H : Heap) (locs : List Loc) (ls : Array Slot), fx2 (gX7_add_127 K x3 x4 x5 x6) k x7 v = some res → sB D G (sA ad r n s.heap.size) s.heap ad r v n x H locs → lv_has ls 8 [(0, .ref (ad 157)), (3, .int x3), (4, .int x4), (5, .int x5), (6, .int x6), (7, .int x7)] → W p l e rmX7_add s m args below meth c H locs 0 0 (MQ below (sQI D G ad r n x s.heap.size res) args s 0 0 (sA ad r n s.heap.size)) (F0 m 127 ls []) := by
  have hx := E.1
  have hb := E.2.1
  have hts := E.2.2.2.2
  intro k
  induction k with
  | zero =>
    intro x7 v H locs ls hf hB hl
    exact fx2_z hf
  | succ k ih =>
    intro x7 v H locs ls hf hB hl
    have hf := (gX7_add_127.eq_1 ..).symm.trans hf
    refine lv_iload hx hb dX7_add_127 (lv_at hl 5 rfl) ?_
    refine lv_bipush (v := 9) hx hb dX7_add_129 rfl ?_
    refine lv_icmp_ge (tgt := 149) hx hb dX7_add_131 rfl (fun hc => ?_) (fun hc => ?_)
    · have hf := ite_t hf hc
      refine lv_aload_n hx hb dX7_add_149 rfl (lv_at hl 0 rfl) ?_
      refine lv_iload hx hb dX7_add_150 (lv_at hl 4 rfl) ?_
      refine lv_iconst (v := 0) hx hb dX7_add_152 rfl ?_
      refine lv_iconst (v := 1) hx hb dX7_add_153 rfl ?_
      refine sc_V hB (fun q h => Or.inr h) hf (fun q9 h9 => rV_W (As := [.int x6, .int 0, .int 1]) (rest := []) E hU hB sc9 (slt hsh hn 157 rfl) rfl ((mX7_put l D G ad r _ n x hsh hn x6 0 1) _ _ h9) (cwGV 3 okX7_put wmX7_119 hts rfl rfl ⟨Nat.le_of_ble_eq_true rfl, Nat.le_of_ble_eq_true rfl⟩) rfl hl.1 (Nat.le_of_ble_eq_true rfl) dX7_add_154 ⟨Nat.zero_le _, Nat.zero_le _⟩ rfl) (fun v9 hf H locs hB => ?_)
      refine lv_aload_n hx hb dX7_add_157 rfl (lv_at hl 0 rfl) ?_
      refine lv_iload hx hb dX7_add_158 (lv_at hl 4 rfl) ?_
      refine lv_iconst (v := 1) hx hb dX7_add_160 rfl ?_
      refine lv_iload hx hb dX7_add_161 (lv_at hl 3 rfl) ?_
      refine sc_V hB (fun q h => Or.inr h) hf (fun q9 h9 => rV_W (As := [.int x6, .int 1, .int x5]) (rest := []) E hU hB sc9 (slt hsh hn 157 rfl) rfl ((mX7_put l D G ad r _ n x hsh hn x6 1 x5) _ _ h9) (cwGV 3 okX7_put wmX7_119 hts rfl rfl ⟨Nat.le_of_ble_eq_true rfl, Nat.le_of_ble_eq_true rfl⟩) rfl hl.1 (Nat.le_of_ble_eq_true rfl) dX7_add_163 ⟨Nat.zero_le _, Nat.zero_le _⟩ rfl) (fun v10 hf H locs hB => ?_)
      refine lv_aload_n hx hb dX7_add_166 rfl (lv_at hl 0 rfl) ?_
      refine lv_iload hx hb dX7_add_167 (lv_at hl 4 rfl) ?_
      refine lv_iconst (v := 2) hx hb dX7_add_169 rfl ?_
      refine lv_iload_n hx hb dX7_add_170 rfl (lv_at hl 1 rfl) ?_
      refine sc_V hB (fun q h => Or.inr h) hf (fun q9 h9 => rV_W (As := [.int x6, .int 2, .int x3]) (rest := []) E hU hB sc9 (slt hsh hn 157 rfl) rfl ((mX7_put l D G ad r _ n x hsh hn x6 2 x3) _ _ h9) (cwGV 3 okX7_put wmX7_119 hts rfl rfl ⟨Nat.le_of_ble_eq_true rfl, Nat.le_of_ble_eq_true rfl⟩) rfl hl.1 (Nat.le_of_ble_eq_true rfl) dX7_add_171 ⟨Nat.zero_le _, Nat.zero_le _⟩ rfl) (fun v11 hf H locs hB => ?_)
      refine lv_aload_n hx hb dX7_add_174 rfl (lv_at hl 0 rfl) ?_
      refine lv_iload hx hb dX7_add_175 (lv_at hl 4 rfl) ?_
      refine lv_iconst (v := 3) hx hb dX7_add_177 rfl ?_
      refine lv_iload hx hb dX7_add_178 (lv_at hl 2 rfl) ?_
      refine sc_V hB (fun q h => Or.inr h) hf (fun q9 h9 => rV_W (As := [.int x6, .int 3, .int x4]) (rest := []) E hU hB sc9 (slt hsh hn 157 rfl) rfl ((mX7_put l D G ad r _ n x hsh hn x6 3 x4) _ _ h9) (cwGV 3 okX7_put wmX7_119 hts rfl rfl ⟨Nat.le_of_ble_eq_true rfl, Nat.le_of_ble_eq_true rfl⟩) rfl hl.1 (Nat.le_of_ble_eq_true rfl) dX7_add_180 ⟨Nat.zero_le _, Nat.zero_le _⟩ rfl) (fun v12 hf H locs hB => ?_)
      refine lv_aload_n hx hb dX7_add_183 rfl (lv_at hl 0 rfl) ?_
      refine lv_iload hx hb dX7_add_184 (lv_at hl 4 rfl) ?_
      refine lv_bipush (v := 6) hx hb dX7_add_186 rfl ?_
      refine lv_iconst (v := (-1)) hx hb dX7_add_188 rfl ?_
      refine sc_V hB (fun q h => Or.inr h) hf (fun q9 h9 => rV_W (As := [.int x6, .int 6, .int (-1)]) (rest := []) E hU hB sc9 (slt hsh hn 157 rfl) rfl ((mX7_put l D G ad r _ n x hsh hn x6 6 (-1)) _ _ h9) (cwGV 3 okX7_put wmX7_119 hts rfl rfl ⟨Nat.le_of_ble_eq_true rfl, Nat.le_of_ble_eq_true rfl⟩) rfl hl.1 (Nat.le_of_ble_eq_true rfl) dX7_add_189 ⟨Nat.zero_le _, Nat.zero_le _⟩ rfl) (fun v13 hf H locs hB => ?_)
      refine lv_iload hx hb dX7_add_192 (lv_at hl 4 rfl) ?_
      exact s_iretW E hrt hlocks hB hf dX7_add_194
    · have hf := ite_f hf hc
      refine lv_aload_n hx hb dX7_add_134 rfl (lv_at hl 0 rfl) ?_
      refine lv_iload hx hb dX7_add_135 (lv_at hl 4 rfl) ?_
      refine lv_iload hx hb dX7_add_137 (lv_at hl 5 rfl) ?_
      refine lv_iconst (v := 0) hx hb dX7_add_139 rfl ?_
      refine sc_V hB (fun q h => Or.inr h) hf (fun q9 h9 => rV_W (As := [.int x6, .int x7, .int 0]) (rest := []) E hU hB sc9 (slt hsh hn 157 rfl) rfl ((mX7_put l D G ad r _ n x hsh hn x6 x7 0) _ _ h9) (cwGV 3 okX7_put wmX7_119 hts rfl rfl ⟨Nat.le_of_ble_eq_true rfl, Nat.le_of_ble_eq_true rfl⟩) rfl hl.1 (Nat.le_of_ble_eq_true rfl) dX7_add_140 ⟨Nat.zero_le _, Nat.zero_le _⟩ rfl) (fun v14 hf H locs hB => ?_)
      obtain ⟨z15, ez9, hf⟩ := nm_x hf
      refine lv_iinc (v := z15) (lv' := [(7, .int z15), (0, .ref (ad 157)), (3, .int x3), (4, .int x4), (5, .int x5), (6, .int x6)]) hx hb dX7_add_143 hl (k := 5) rfl (by rw [ez9]; rfl) (Nat.le_of_ble_eq_true rfl) rfl (fun ls hl => ?_)
      refine lv_goto (tgt := 127) hx hb dX7_add_146 rfl ?_
      exact ih _ _ _ _ _ hf hB (lv_sub hl [1, 2, 3, 4, 5, 0] rfl)
set_option maxRecDepth 100000 in
set_option maxHeartbeats 4000000 in
theorem lX7_add_109 {K : Nat} {x3 : Int32} {x4 : Int32} {x5 : Int32} {res : (Int32 × sV)} (E : CallFix p m c cX7_add 8 s args wsL_law RX7) (hlocks : meth.locks = false) (hrt : meth.sig.returnType = (some .int)) (hU : sU D G s) (hsh : sSh r) (hn : 172 ≤ n) {v : sV} {H : Heap} {locs : List Loc} (hB : sB D G (sA ad r n s.heap.size) s.heap ad r v n x H locs) :
    ∀ (k : Nat) (x6 : Int32) (ls : Array Slot), fx1 (gX7_add_109 K x3 x4 x5 v) k x6 = some res → lv_has ls 8 [(0, .ref (ad 157)), (3, .int x3), (4, .int x4), (5, .int x5), (6, .int x6)] → W p l e rmX7_add s m args below meth c H locs 0 0 (MQ below (sQI D G ad r n x s.heap.size res) args s 0 0 (sA ad r n s.heap.size)) (F0 m 109 ls []) := by
  have hx := E.1
  have hb := E.2.1
  have hts := E.2.2.2.2
  intro k
  induction k with
  | zero =>
    intro x6 ls hf hl
    exact fx1_z hf
  | succ k ih =>
    intro x6 ls hf hl
    have hf := (gX7_add_109.eq_1 ..).symm.trans hf
    refine lv_aload_n hx hb dX7_add_109 rfl (lv_at hl 0 rfl) ?_
    refine lv_iload hx hb dX7_add_110 (lv_at hl 4 rfl) ?_
    refine sc_R hf (rV_R (As := [.int x6]) (rest := []) E hU hB.1 sc9 (slt hsh hn 157 rfl) rfl (mX7_isAgent l D G ad r _ n x hsh hn x6) (cwGV 1 okX7_isAgent wmX7_102 hts rfl rfl ⟨Nat.le_of_ble_eq_true rfl, Nat.le_of_ble_eq_true rfl⟩) rfl hl.1 (Nat.le_of_ble_eq_true rfl) dX7_add_112 ⟨Nat.zero_le _, Nat.zero_le _⟩ rfl) (fun y8 hf => ?_)
    refine lv_if_eq (tgt := 124) hx hb dX7_add_115 rfl (fun hc => ?_) (fun hc => ?_)
    · have hf := ite_t hf hc
      refine lv_iconst (v := 0) hx hb dX7_add_124 rfl ?_
      refine lv_istore (lv' := [(7, .int 0), (0, .ref (ad 157)), (3, .int x3), (4, .int x4), (5, .int x5), (6, .int x6)]) hx hb dX7_add_125 hl (Nat.le_of_ble_eq_true rfl) rfl (fun ls hl => ?_)
      exact lX7_add_127 E hlocks hrt hU hsh hn _ _ _ _ _ _ hf hB (lv_sub hl [1, 2, 3, 4, 5, 0] rfl)
    · have hf := ite_f hf hc
      obtain ⟨z16, ez9, hf⟩ := nm_x hf
      refine lv_iinc (v := z16) (lv' := [(6, .int z16), (0, .ref (ad 157)), (3, .int x3), (4, .int x4), (5, .int x5)]) hx hb dX7_add_118 hl (k := 4) rfl (by rw [ez9]; rfl) (Nat.le_of_ble_eq_true rfl) rfl (fun ls hl => ?_)
      refine lv_goto (tgt := 109) hx hb dX7_add_121 rfl ?_
      exact ih _ _ hf (lv_sub hl [1, 2, 3, 4, 0] rfl)
set_option maxRecDepth 100000 in
set_option maxHeartbeats 4000000 in
theorem wX7_add_90 {K : Nat} {x3 : Int32} {x4 : Int32} {x5 : Int32} {t1 : Int32} {res : (Int32 × sV)} (E : CallFix p m c cX7_add 8 s args wsL_law RX7) (hlocks : meth.locks = false) (hrt : meth.sig.returnType = (some .int)) (hU : sU D G s) (hsh : sSh r) (hn : 172 ≤ n) {v : sV} {H : Heap} {locs : List Loc} (hB : sB D G (sA ad r n s.heap.size) s.heap ad r v n x H locs) {ls : Array Slot} (hf : bX7_add_90 K x3 x4 x5 t1 v = some res) (hl : lv_has ls 8 [(0, .ref (ad 157)), (3, .int x3), (4, .int x4), (5, .int x5)]) :
    W p l e rmX7_add s m args below meth c H locs 0 0 (MQ below (sQI D G ad r n x s.heap.size res) args s 0 0 (sA ad r n s.heap.size)) (F0 m 90 ls [.int t1, .ref (ad 157)]) := by
  have hx := E.1
  have hb := E.2.1
  have hts := E.2.2.2.2
  have hf := (bX7_add_90.eq_1 ..).symm.trans hf
  refine s_putI (k := 6) (ty1 := .int) E hU hB sc9 (slt hsh hn 157 rfl) rfl inlX7 (Nat.le_of_ble_eq_true rfl) rfl rfl wkX7_47 rfl rfl rfl rfl dX7_add_90 hf (fun v6 hf H locs hB => ?_)
  refine lv_aload_n hx hb dX7_add_93 rfl (lv_at hl 0 rfl) ?_
  refine s_getI (k := 6) E hU hB.1 sc9 (slt hsh hn 157 rfl) rfl inlX7 (Nat.le_of_ble_eq_true rfl) rfl rfl wkX7_47 dX7_add_94 ?_
  refine lv_if_eq (tgt := 102) hx hb dX7_add_97 rfl (fun hc => ?_) (fun hc => ?_)
  · have hf := ite_t hf hc
    refine lv_aload_n hx hb dX7_add_102 rfl (lv_at hl 0 rfl) ?_
    refine sc_V hB (fun q h => Or.inr h) hf (fun q9 h9 => rV_W (As := []) (rest := []) E hU hB sc9 (slt hsh hn 157 rfl) rfl ((mX7_keeps l K D G ad r _ n x hsh hn) _ _ h9) (cwGV 0 okX7_keeps wmX7_96 hts rfl rfl ⟨Nat.le_of_ble_eq_true rfl, Nat.le_of_ble_eq_true rfl⟩) rfl hl.1 (Nat.le_of_ble_eq_true rfl) dX7_add_103 ⟨Nat.zero_le _, Nat.zero_le _⟩ rfl) (fun v7 hf H locs hB => ?_)
    refine lv_iconst (v := 0) hx hb dX7_add_106 rfl ?_
    refine lv_istore (lv' := [(6, .int 0), (0, .ref (ad 157)), (3, .int x3), (4, .int x4), (5, .int x5)]) hx hb dX7_add_107 hl (Nat.le_of_ble_eq_true rfl) rfl (fun ls hl => ?_)
    exact lX7_add_109 E hlocks hrt hU hsh hn hB _ _ _ hf (lv_sub hl [1, 2, 3, 4, 0] rfl)
  · have hf := ite_f hf hc
    refine lv_iconst (v := 0) hx hb dX7_add_100 rfl ?_
    exact s_iretW E hrt hlocks hB hf dX7_add_101
set_option maxRecDepth 100000 in
set_option maxHeartbeats 4000000 in
theorem wX7_add_38 {K : Nat} {x1 : Int32} {x2 : Int32} {x3 : Int32} {x4 : Int32} {t1 : Int32} {res : (Int32 × sV)} (E : CallFix p m c cX7_add 8 s args wsL_law RX7) (hlocks : meth.locks = false) (hrt : meth.sig.returnType = (some .int)) (hU : sU D G s) (hsh : sSh r) (hn : 172 ≤ n) {v : sV} {H : Heap} {locs : List Loc} (hB : sB D G (sA ad r n s.heap.size) s.heap ad r v n x H locs) {ls : Array Slot} (hf : bX7_add_38 K x1 x2 x3 x4 t1 v = some res) (hl : lv_has ls 8 [(0, .ref (ad 157)), (1, .int x1), (2, .int x2), (3, .int x3), (4, .int x4)]) :
    W p l e rmX7_add s m args below meth c H locs 0 0 (MQ below (sQI D G ad r n x s.heap.size res) args s 0 0 (sA ad r n s.heap.size)) (F0 m 38 ls [.int t1, .ref (ad 157)]) := by
  have hx := E.1
  have hb := E.2.1
  have hts := E.2.2.2.2
  have hf := (bX7_add_38.eq_1 ..).symm.trans hf
  refine s_putI (k := 6) (ty1 := .int) E hU hB sc9 (slt hsh hn 157 rfl) rfl inlX7 (Nat.le_of_ble_eq_true rfl) rfl rfl wkX7_47 rfl rfl rfl rfl dX7_add_38 hf (fun v3 hf H locs hB => ?_)
  refine lv_aload_n hx hb dX7_add_41 rfl (lv_at hl 0 rfl) ?_
  refine s_getI (k := 6) E hU hB.1 sc9 (slt hsh hn 157 rfl) rfl inlX7 (Nat.le_of_ble_eq_true rfl) rfl rfl wkX7_47 dX7_add_42 ?_
  refine lv_if_eq (tgt := 50) hx hb dX7_add_45 rfl (fun hc => ?_) (fun hc => ?_)
  · have hf := ite_t hf hc
    refine lv_iload_n hx hb dX7_add_50 rfl (lv_at hl 1 rfl) ?_
    refine lv_iload_n hx hb dX7_add_51 rfl (lv_at hl 2 rfl) ?_
    refine sc_R hf (rS_S (As := [.int x1, .int x2]) (rest := []) E (mX7_cellAt l x1 x2) (cwGS 2 okX7_cellAt wmX7_66 hts rfl rfl ⟨Nat.le_of_ble_eq_true rfl, Nat.le_of_ble_eq_true rfl⟩) rfl hl.1 (Nat.le_of_ble_eq_true rfl) dX7_add_52 ⟨Nat.zero_le _, Nat.zero_le _⟩ rfl) (fun y4 hf => ?_)
    refine lv_istore (lv' := [(5, .int y4), (0, .ref (ad 157)), (1, .int x1), (2, .int x2), (3, .int x3), (4, .int x4)]) hx hb dX7_add_55 hl (Nat.le_of_ble_eq_true rfl) rfl (fun ls hl => ?_)
    refine lv_aload_n hx hb dX7_add_57 rfl (lv_at hl 1 rfl) ?_
    refine lv_aload_n hx hb dX7_add_58 rfl (lv_at hl 1 rfl) ?_
    refine lv_iload hx hb dX7_add_59 (lv_at hl 0 rfl) ?_
    refine sc_R hf (rV_R (As := [.int y4]) (rest := [.ref (ad 157)]) E hU hB.1 sc9 (slt hsh hn 157 rfl) rfl (mX7_isFree l D G ad r _ n x hsh hn y4) (cwGV 1 okX7_isFree wmX7_79 hts rfl rfl ⟨Nat.le_of_ble_eq_true rfl, Nat.le_of_ble_eq_true rfl⟩) rfl hl.1 (Nat.le_of_ble_eq_true rfl) dX7_add_61 ⟨Nat.zero_le _, Nat.zero_le _⟩ rfl) (fun y5 hf => ?_)
    refine lv_if_eq (tgt := 85) hx hb dX7_add_64 rfl (fun hc => ?_) (fun hc => ?_)
    · have hf := ite_t hf hc
      refine lv_iconst (v := 3) hx hb dX7_add_85 rfl ?_
      refine lv_goto (tgt := 90) hx hb dX7_add_86 rfl ?_
      exact wX7_add_90 E hlocks hrt hU hsh hn hB hf (lv_sub hl [1, 4, 5, 0] rfl)
    · have hf := ite_f hf hc
      refine lv_aload_n hx hb dX7_add_67 rfl (lv_at hl 1 rfl) ?_
      refine lv_iload hx hb dX7_add_68 (lv_at hl 0 rfl) ?_
      refine sc_R hf (rV_R (As := [.int y4]) (rest := [.ref (ad 157)]) E hU hB.1 sc9 (slt hsh hn 157 rfl) rfl (mX7_agentOn l K D G ad r _ n x hsh hn y4) (cwGV 1 okX7_agentOn wmX7_93 hts rfl rfl ⟨Nat.le_of_ble_eq_true rfl, Nat.le_of_ble_eq_true rfl⟩) rfl hl.1 (Nat.le_of_ble_eq_true rfl) dX7_add_70 ⟨Nat.zero_le _, Nat.zero_le _⟩ rfl) (fun y17 hf => ?_)
      refine lv_if_ge (tgt := 85) hx hb dX7_add_73 rfl (fun hc => ?_) (fun hc => ?_)
      · have hf := ite_t hf hc
        refine lv_iconst (v := 3) hx hb dX7_add_85 rfl ?_
        refine lv_goto (tgt := 90) hx hb dX7_add_86 rfl ?_
        exact wX7_add_90 E hlocks hrt hU hsh hn hB hf (lv_sub hl [1, 4, 5, 0] rfl)
      · have hf := ite_f hf hc
        refine lv_aload_n hx hb dX7_add_76 rfl (lv_at hl 1 rfl) ?_
        refine sc_R hf (rV_R (As := []) (rest := [.ref (ad 157)]) E hU hB.1 sc9 (slt hsh hn 157 rfl) rfl (mX7_many l K D G ad r _ n x hsh hn) (cwGV 0 okX7_many wmX7_115 hts rfl rfl ⟨Nat.le_of_ble_eq_true rfl, Nat.le_of_ble_eq_true rfl⟩) rfl hl.1 (Nat.le_of_ble_eq_true rfl) dX7_add_77 ⟨Nat.zero_le _, Nat.zero_le _⟩ rfl) (fun y18 hf => ?_)
        refine lv_bipush (v := 16) hx hb dX7_add_80 rfl ?_
        refine lv_icmp_ne (tgt := 89) hx hb dX7_add_82 rfl (fun hc => ?_) (fun hc => ?_)
        · have hf := ite_f hf hc
          refine lv_iconst (v := 0) hx hb dX7_add_89 rfl ?_
          exact wX7_add_90 E hlocks hrt hU hsh hn hB hf (lv_sub hl [1, 4, 5, 0] rfl)
        · have hf := ite_t hf hc
          refine lv_iconst (v := 3) hx hb dX7_add_85 rfl ?_
          refine lv_goto (tgt := 90) hx hb dX7_add_86 rfl ?_
          exact wX7_add_90 E hlocks hrt hU hsh hn hB hf (lv_sub hl [1, 4, 5, 0] rfl)
  · have hf := ite_f hf hc
    refine lv_iconst (v := 0) hx hb dX7_add_48 rfl ?_
    exact s_iretW E hrt hlocks hB hf dX7_add_49
set_option maxRecDepth 100000 in
set_option maxHeartbeats 4000000 in
theorem mX7_add (l : Launch) (K : Nat) (D : va_G) (G : Nat → ClassId) (ad : Nat → Nat) (r : sR) (v : sV) (n : Nat) (x : Int64 × UInt64) (hsh : sSh r) (hn : 172 ≤ n) (x1 : Int32) (x2 : Int32) (x3 : Int32) (x4 : Int32) : sMI l yX7_add (.code yX7_add cX7_add 8 (some .int) :: wsL_law) rmX7_add D G ad r v n x [.ref (ad 157), .int x1, .int x2, .int x3, .int x4] (fX7_add K x1 x2 x3 x4 v) := by
  intro sz res hf
  refine Met.ofW (cc := cX7_add) (maxL := 8) (ret := (some .int)) (by decide) rfl ?_
  intro p e s m args below meth c s₁ B hml hv
  obtain ⟨rfl, rfl, hU, hP, hD⟩ := hv
  have hx := B.exec
  have hb := B.bytes
  have hrt := B.returns
  have hts : ∀ w ∈ wsL_law, w.before _ s = true := fun w hw => atoms_spec (ws := .code yX7_add cX7_add 8 (some .int) :: wsL_law) B.pre w (List.mem_cons_of_mem _ hw)
  have hlocks := B.notSynchronized
  have E : CallFix p m c cX7_add 8 s ([.ref (ad 157), .int x1, .int x2, .int x3, .int x4] : List Value).toArray wsL_law RX7 := ⟨hx, hb, hml, findClass_of_methodNamed B.named, hts⟩
  have hB : sB D G (sA ad r n s.heap.size) s.heap ad r v n x s.heap [] := ⟨hP, sD_self hD, va_S.rf⟩
  have hl := lv_entry ([.ref (ad 157), .int x1, .int x2, .int x3, .int x4]) (n := 8) (Nat.le_of_ble_eq_true rfl)
  rw [lg_entry_eq]
  generalize (lg_sl ([.ref (ad 157), .int x1, .int x2, .int x3, .int x4]) ++ List.replicate (8 - (lg_sl ([.ref (ad 157), .int x1, .int x2, .int x3, .int x4])).length) Slot.unset).toArray = ls at hl ⊢
  have hl : lv_has ls 8 [(0, .ref (ad 157)), (1, .int x1), (2, .int x2), (3, .int x3), (4, .int x4)] := hl
  have hf := (fX7_add.eq_1 ..).symm.trans hf
  refine lv_aload_n hx hb dX7_add_0 rfl (lv_at hl 0 rfl) ?_
  refine lv_iload_n hx hb dX7_add_1 rfl (lv_at hl 1 rfl) ?_
  refine lv_iload_n hx hb dX7_add_2 rfl (lv_at hl 2 rfl) ?_
  refine sc_R hf (rS_S (As := [.int x1, .int x2]) (rest := [.ref (ad 157)]) E (mX7_isCell l x1 x2) (cwGS 2 okX7_isCell wmX7_62 hts rfl rfl ⟨Nat.le_of_ble_eq_true rfl, Nat.le_of_ble_eq_true rfl⟩) rfl hl.1 (Nat.le_of_ble_eq_true rfl) dX7_add_3 ⟨Nat.zero_le _, Nat.zero_le _⟩ rfl) (fun y1 hf => ?_)
  refine lv_if_ne (tgt := 13) hx hb dX7_add_6 rfl (fun hc => ?_) (fun hc => ?_)
  · have hf := ite_f hf hc
    refine lv_iload_n hx hb dX7_add_13 rfl (lv_at hl 3 rfl) ?_
    refine lv_iconst (v := (-1)) hx hb dX7_add_14 rfl ?_
    refine lv_iconst (v := 3) hx hb dX7_add_15 rfl ?_
    refine sc_R hf (rS_S (As := [.int x3, .int (-1), .int 3]) (rest := [.ref (ad 157)]) E (mX7_isIn l x3 (-1) 3) (cwGS 3 okX7_isIn wmX7_51 hts rfl rfl ⟨Nat.le_of_ble_eq_true rfl, Nat.le_of_ble_eq_true rfl⟩) rfl hl.1 (Nat.le_of_ble_eq_true rfl) dX7_add_16 ⟨Nat.zero_le _, Nat.zero_le _⟩ rfl) (fun y2 hf => ?_)
    refine lv_if_eq (tgt := 33) hx hb dX7_add_19 rfl (fun hc => ?_) (fun hc => ?_)
    · have hf := ite_t hf hc
      refine lv_iconst (v := 2) hx hb dX7_add_33 rfl ?_
      refine lv_goto (tgt := 38) hx hb dX7_add_34 rfl ?_
      exact wX7_add_38 E hlocks hrt hU hsh hn hB hf (lv_sub hl [0, 1, 2, 3, 4] rfl)
    · have hf := ite_f hf hc
      refine lv_iload hx hb dX7_add_22 (lv_at hl 4 rfl) ?_
      refine lv_iconst (v := 0) hx hb dX7_add_24 rfl ?_
      refine lv_bipush (v := 9) hx hb dX7_add_25 rfl ?_
      refine sc_R hf (rS_S (As := [.int x4, .int 0, .int 9]) (rest := [.ref (ad 157)]) E (mX7_isIn l x4 0 9) (cwGS 3 okX7_isIn wmX7_51 hts rfl rfl ⟨Nat.le_of_ble_eq_true rfl, Nat.le_of_ble_eq_true rfl⟩) rfl hl.1 (Nat.le_of_ble_eq_true rfl) dX7_add_27 ⟨Nat.zero_le _, Nat.zero_le _⟩ rfl) (fun y19 hf => ?_)
      refine lv_if_ne (tgt := 37) hx hb dX7_add_30 rfl (fun hc => ?_) (fun hc => ?_)
      · have hf := ite_f hf hc
        refine lv_iconst (v := 0) hx hb dX7_add_37 rfl ?_
        exact wX7_add_38 E hlocks hrt hU hsh hn hB hf (lv_sub hl [0, 1, 2, 3, 4] rfl)
      · have hf := ite_t hf hc
        refine lv_iconst (v := 2) hx hb dX7_add_33 rfl ?_
        refine lv_goto (tgt := 38) hx hb dX7_add_34 rfl ?_
        exact wX7_add_38 E hlocks hrt hU hsh hn hB hf (lv_sub hl [0, 1, 2, 3, 4] rfl)
  · have hf := ite_t hf hc
    refine lv_iconst (v := 1) hx hb dX7_add_9 rfl ?_
    refine lv_goto (tgt := 38) hx hb dX7_add_10 rfl ?_
    exact wX7_add_38 E hlocks hrt hU hsh hn hB hf (lv_sub hl [0, 1, 2, 3, 4] rfl)
abbrev rmX7_members : Room := { frames := 2, cells := 0, slots := 0, locals := 43 }
set_option maxRecDepth 100000 in
set_option maxHeartbeats 4000000 in
theorem lX7_members_4 {K : Nat} {x1 : Int32} {res : Int32} (E : CallFix p m c cX7_members 4 s args wsL_law RX7) (hlocks : meth.locks = false) (hrt : meth.sig.returnType = (some .int)) (hU : sU D G s) (hsh : sSh r) (hn : 172 ≤ n) {v : sV} (hP : va_P D vwCl (sWl G ad r v n x) s.heap) :
    ∀ (k : Nat) (x2 : Int32) (x3 : Int32) (ls : Array Slot), fx2 (gX7_members_4 K x1 v) k x2 x3 = some res → lv_has ls 4 [(0, .ref (ad 157)), (1, .int x1), (2, .int x2), (3, .int x3)] → W p l e rmX7_members s m args below meth c s.heap [] 0 0 (MQ below (vp_Si (fun q => q = res)) args s 0 0 (fun _ => False)) (F0 m 4 ls []) := by
  have hx := E.1
  have hb := E.2.1
  have hts := E.2.2.2.2
  intro k
  induction k with
  | zero =>
    intro x2 x3 ls hf hl
    exact fx2_z hf
  | succ k ih =>
    intro x2 x3 ls hf hl
    have hf := (gX7_members_4.eq_1 ..).symm.trans hf
    refine lv_iload_n hx hb dX7_members_4 rfl (lv_at hl 3 rfl) ?_
    refine lv_bipush (v := 16) hx hb dX7_members_5 rfl ?_
    refine lv_icmp_ge (tgt := 43) hx hb dX7_members_7 rfl (fun hc => ?_) (fun hc => ?_)
    · have hf := ite_t hf hc
      refine lv_iload_n hx hb dX7_members_43 rfl (lv_at hl 2 rfl) ?_
      exact s_iretR E hrt hlocks hf dX7_members_44
    · have hf := ite_f hf hc
      refine lv_iload_n hx hb dX7_members_10 rfl (lv_at hl 2 rfl) ?_
      refine lv_aload_n hx hb dX7_members_11 rfl (lv_at hl 0 rfl) ?_
      refine lv_iload_n hx hb dX7_members_12 rfl (lv_at hl 3 rfl) ?_
      refine sc_R hf (rV_R (As := [.int x3]) (rest := [.int x2]) E hU hP sc9 (slt hsh hn 157 rfl) rfl (mX7_isAgent l D G ad r _ n x hsh hn x3) (cwGV 1 okX7_isAgent wmX7_102 hts rfl rfl ⟨Nat.le_of_ble_eq_true rfl, Nat.le_of_ble_eq_true rfl⟩) rfl hl.1 (Nat.le_of_ble_eq_true rfl) dX7_members_13 ⟨Nat.zero_le _, Nat.zero_le _⟩ rfl) (fun y1 hf => ?_)
      refine lv_if_eq (tgt := 34) hx hb dX7_members_16 rfl (fun hc => ?_) (fun hc => ?_)
      · have hf := ite_t hf hc
        refine lv_iconst (v := 0) hx hb dX7_members_34 rfl ?_
        refine lv_iadd hx hb dX7_members_35 ?_
        refine s_nm hf (fun z2 hf => ?_)
        refine lv_istore_n (lv' := [(2, .int z2), (0, .ref (ad 157)), (1, .int x1), (3, .int x3)]) hx hb dX7_members_36 rfl hl (Nat.le_of_ble_eq_true rfl) rfl (fun ls hl => ?_)
        obtain ⟨z3, ez9, hf⟩ := nm_x hf
        refine lv_iinc (v := z3) (lv' := [(3, .int z3), (2, .int z2), (0, .ref (ad 157)), (1, .int x1)]) hx hb dX7_members_37 hl (k := 3) rfl (by rw [ez9]; rfl) (Nat.le_of_ble_eq_true rfl) rfl (fun ls hl => ?_)
        refine lv_goto (tgt := 4) hx hb dX7_members_40 rfl ?_
        exact ih _ _ _ hf (lv_sub hl [2, 3, 1, 0] rfl)
      · have hf := ite_f hf hc
        refine lv_aload_n hx hb dX7_members_19 rfl (lv_at hl 0 rfl) ?_
        refine lv_iload_n hx hb dX7_members_20 rfl (lv_at hl 3 rfl) ?_
        refine lv_bipush (v := 6) hx hb dX7_members_21 rfl ?_
        refine sc_R hf (rV_R (As := [.int x3, .int 6]) (rest := [.int x2]) E hU hP sc9 (slt hsh hn 157 rfl) rfl (mX7_at l D G ad r _ n x hsh hn x3 6) (cwGV 2 okX7_at wmX7_105 hts rfl rfl ⟨Nat.le_of_ble_eq_true rfl, Nat.le_of_ble_eq_true rfl⟩) rfl hl.1 (Nat.le_of_ble_eq_true rfl) dX7_members_23 ⟨Nat.zero_le _, Nat.zero_le _⟩ rfl) (fun y4 hf => ?_)
        refine lv_iload_n hx hb dX7_members_26 rfl (lv_at hl 1 rfl) ?_
        refine lv_icmp_ne (tgt := 34) hx hb dX7_members_27 rfl (fun hc => ?_) (fun hc => ?_)
        · have hf := ite_f hf hc
          refine lv_iconst (v := 0) hx hb dX7_members_34 rfl ?_
          refine lv_iadd hx hb dX7_members_35 ?_
          refine s_nm hf (fun z5 hf => ?_)
          refine lv_istore_n (lv' := [(2, .int z5), (0, .ref (ad 157)), (1, .int x1), (3, .int x3)]) hx hb dX7_members_36 rfl hl (Nat.le_of_ble_eq_true rfl) rfl (fun ls hl => ?_)
          obtain ⟨z6, ez9, hf⟩ := nm_x hf
          refine lv_iinc (v := z6) (lv' := [(3, .int z6), (2, .int z5), (0, .ref (ad 157)), (1, .int x1)]) hx hb dX7_members_37 hl (k := 3) rfl (by rw [ez9]; rfl) (Nat.le_of_ble_eq_true rfl) rfl (fun ls hl => ?_)
          refine lv_goto (tgt := 4) hx hb dX7_members_40 rfl ?_
          exact ih _ _ _ hf (lv_sub hl [2, 3, 1, 0] rfl)
        · have hf := ite_t hf hc
          refine lv_iconst (v := 1) hx hb dX7_members_30 rfl ?_
          refine lv_goto (tgt := 35) hx hb dX7_members_31 rfl ?_
          refine lv_iadd hx hb dX7_members_35 ?_
          refine s_nm hf (fun z7 hf => ?_)
          refine lv_istore_n (lv' := [(2, .int z7), (0, .ref (ad 157)), (1, .int x1), (3, .int x3)]) hx hb dX7_members_36 rfl hl (Nat.le_of_ble_eq_true rfl) rfl (fun ls hl => ?_)
          obtain ⟨z8, ez9, hf⟩ := nm_x hf
          refine lv_iinc (v := z8) (lv' := [(3, .int z8), (2, .int z7), (0, .ref (ad 157)), (1, .int x1)]) hx hb dX7_members_37 hl (k := 3) rfl (by rw [ez9]; rfl) (Nat.le_of_ble_eq_true rfl) rfl (fun ls hl => ?_)
          refine lv_goto (tgt := 4) hx hb dX7_members_40 rfl ?_
          exact ih _ _ _ hf (lv_sub hl [2, 3, 1, 0] rfl)
set_option maxRecDepth 100000 in
set_option maxHeartbeats 4000000 in
theorem mX7_members (l : Launch) (K : Nat) (D : va_G) (G : Nat → ClassId) (ad : Nat → Nat) (r : sR) (v : sV) (n : Nat) (x : Int64 × UInt64) (hsh : sSh r) (hn : 172 ≤ n) (x1 : Int32) : sMR l yX7_members (.code yX7_members cX7_members 4 (some .int) :: wsL_law) rmX7_members D G ad r v n x [.ref (ad 157), .int x1] (fX7_members K x1 v) := by
  intro res hf
  refine Met.ofW (cc := cX7_members) (maxL := 4) (ret := (some .int)) (by decide) rfl ?_
  intro p e s m args below meth c s₁ B hml hv
  obtain ⟨rfl, hU, hP⟩ := hv
  have hx := B.exec
  have hb := B.bytes
  have hrt := B.returns
  have hts : ∀ w ∈ wsL_law, w.before _ s = true := fun w hw => atoms_spec (ws := .code yX7_members cX7_members 4 (some .int) :: wsL_law) B.pre w (List.mem_cons_of_mem _ hw)
  have hlocks := B.notSynchronized
  have E : CallFix p m c cX7_members 4 s ([.ref (ad 157), .int x1] : List Value).toArray wsL_law RX7 := ⟨hx, hb, hml, findClass_of_methodNamed B.named, hts⟩
  have hl := lv_entry ([.ref (ad 157), .int x1]) (n := 4) (Nat.le_of_ble_eq_true rfl)
  rw [lg_entry_eq]
  generalize (lg_sl ([.ref (ad 157), .int x1]) ++ List.replicate (4 - (lg_sl ([.ref (ad 157), .int x1])).length) Slot.unset).toArray = ls at hl ⊢
  have hl : lv_has ls 4 [(0, .ref (ad 157)), (1, .int x1)] := hl
  have hf := (fX7_members.eq_1 ..).symm.trans hf
  refine lv_iconst (v := 0) hx hb dX7_members_0 rfl ?_
  refine lv_istore_n (lv' := [(2, .int 0), (0, .ref (ad 157)), (1, .int x1)]) hx hb dX7_members_1 rfl hl (Nat.le_of_ble_eq_true rfl) rfl (fun ls hl => ?_)
  refine lv_iconst (v := 0) hx hb dX7_members_2 rfl ?_
  refine lv_istore_n (lv' := [(3, .int 0), (2, .int 0), (0, .ref (ad 157)), (1, .int x1)]) hx hb dX7_members_3 rfl hl (Nat.le_of_ble_eq_true rfl) rfl (fun ls hl => ?_)
  exact lX7_members_4 E hlocks hrt hU hsh hn hP _ _ _ _ hf (lv_sub hl [2, 3, 1, 0] rfl)
abbrev rmX7_remove : Room := { frames := 3, cells := 0, slots := 0, locals := 65 }
set_option maxRecDepth 100000 in
set_option maxHeartbeats 4000000 in
theorem lX7_remove_39 {K : Nat} {x1 : Int32} {res : (Int32 × sV)} (E : CallFix p m c cX7_remove 3 s args wsL_law RX7) (hlocks : meth.locks = false) (hrt : meth.sig.returnType = (some .int)) (hU : sU D G s) (hsh : sSh r) (hn : 172 ≤ n) :
    ∀ (k : Nat) (x2 : Int32) (v : sV) (H : Heap) (locs : List Loc) (ls : Array Slot), fx2 (gX7_remove_39 K x1) k x2 v = some res → sB D G (sA ad r n s.heap.size) s.heap ad r v n x H locs → lv_has ls 3 [(0, .ref (ad 157)), (1, .int x1), (2, .int x2)] → W p l e rmX7_remove s m args below meth c H locs 0 0 (MQ below (sQI D G ad r n x s.heap.size res) args s 0 0 (sA ad r n s.heap.size)) (F0 m 39 ls []) := by
  have hx := E.1
  have hb := E.2.1
  have hts := E.2.2.2.2
  intro k
  induction k with
  | zero =>
    intro x2 v H locs ls hf hB hl
    exact fx2_z hf
  | succ k ih =>
    intro x2 v H locs ls hf hB hl
    have hf := (gX7_remove_39.eq_1 ..).symm.trans hf
    refine lv_iload_n hx hb dX7_remove_39 rfl (lv_at hl 2 rfl) ?_
    refine lv_bipush (v := 16) hx hb dX7_remove_40 rfl ?_
    refine lv_icmp_ge (tgt := 78) hx hb dX7_remove_42 rfl (fun hc => ?_) (fun hc => ?_)
    · have hf := ite_t hf hc
      refine lv_aload_n hx hb dX7_remove_78 rfl (lv_at hl 0 rfl) ?_
      refine sc_R hf (rV_R (As := []) (rest := []) E hU hB.1 sc9 (slt hsh hn 157 rfl) rfl (mX7_many l K D G ad r _ n x hsh hn) (cwGV 0 okX7_many wmX7_115 hts rfl rfl ⟨Nat.le_of_ble_eq_true rfl, Nat.le_of_ble_eq_true rfl⟩) rfl hl.1 (Nat.le_of_ble_eq_true rfl) dX7_remove_79 ⟨Nat.zero_le _, Nat.zero_le _⟩ rfl) (fun y5 hf => ?_)
      exact s_iretW E hrt hlocks hB hf dX7_remove_82
    · have hf := ite_f hf hc
      refine lv_aload_n hx hb dX7_remove_45 rfl (lv_at hl 0 rfl) ?_
      refine lv_iload_n hx hb dX7_remove_46 rfl (lv_at hl 2 rfl) ?_
      refine sc_R hf (rV_R (As := [.int x2]) (rest := []) E hU hB.1 sc9 (slt hsh hn 157 rfl) rfl (mX7_isAgent l D G ad r _ n x hsh hn x2) (cwGV 1 okX7_isAgent wmX7_102 hts rfl rfl ⟨Nat.le_of_ble_eq_true rfl, Nat.le_of_ble_eq_true rfl⟩) rfl hl.1 (Nat.le_of_ble_eq_true rfl) dX7_remove_47 ⟨Nat.zero_le _, Nat.zero_le _⟩ rfl) (fun y6 hf => ?_)
      refine lv_if_eq (tgt := 72) hx hb dX7_remove_50 rfl (fun hc => ?_) (fun hc => ?_)
      · have hf := ite_t hf hc
        obtain ⟨z7, ez9, hf⟩ := nm_x hf
        refine lv_iinc (v := z7) (lv' := [(2, .int z7), (0, .ref (ad 157)), (1, .int x1)]) hx hb dX7_remove_72 hl (k := 2) rfl (by rw [ez9]; rfl) (Nat.le_of_ble_eq_true rfl) rfl (fun ls hl => ?_)
        refine lv_goto (tgt := 39) hx hb dX7_remove_75 rfl ?_
        exact ih _ _ _ _ _ hf hB (lv_sub hl [1, 2, 0] rfl)
      · have hf := ite_f hf hc
        refine lv_aload_n hx hb dX7_remove_53 rfl (lv_at hl 0 rfl) ?_
        refine lv_iload_n hx hb dX7_remove_54 rfl (lv_at hl 2 rfl) ?_
        refine lv_bipush (v := 6) hx hb dX7_remove_55 rfl ?_
        refine sc_R hf (rV_R (As := [.int x2, .int 6]) (rest := []) E hU hB.1 sc9 (slt hsh hn 157 rfl) rfl (mX7_at l D G ad r _ n x hsh hn x2 6) (cwGV 2 okX7_at wmX7_105 hts rfl rfl ⟨Nat.le_of_ble_eq_true rfl, Nat.le_of_ble_eq_true rfl⟩) rfl hl.1 (Nat.le_of_ble_eq_true rfl) dX7_remove_57 ⟨Nat.zero_le _, Nat.zero_le _⟩ rfl) (fun y8 hf => ?_)
        refine lv_iload_n hx hb dX7_remove_60 rfl (lv_at hl 1 rfl) ?_
        refine lv_icmp_ne (tgt := 72) hx hb dX7_remove_61 rfl (fun hc => ?_) (fun hc => ?_)
        · have hf := ite_f hf hc
          obtain ⟨z9, ez9, hf⟩ := nm_x hf
          refine lv_iinc (v := z9) (lv' := [(2, .int z9), (0, .ref (ad 157)), (1, .int x1)]) hx hb dX7_remove_72 hl (k := 2) rfl (by rw [ez9]; rfl) (Nat.le_of_ble_eq_true rfl) rfl (fun ls hl => ?_)
          refine lv_goto (tgt := 39) hx hb dX7_remove_75 rfl ?_
          exact ih _ _ _ _ _ hf hB (lv_sub hl [1, 2, 0] rfl)
        · have hf := ite_t hf hc
          refine lv_aload_n hx hb dX7_remove_64 rfl (lv_at hl 0 rfl) ?_
          refine lv_iload_n hx hb dX7_remove_65 rfl (lv_at hl 2 rfl) ?_
          refine lv_bipush (v := 6) hx hb dX7_remove_66 rfl ?_
          refine lv_iconst (v := (-1)) hx hb dX7_remove_68 rfl ?_
          refine sc_V hB (fun q h => Or.inr h) hf (fun q9 h9 => rV_W (As := [.int x2, .int 6, .int (-1)]) (rest := []) E hU hB sc9 (slt hsh hn 157 rfl) rfl ((mX7_put l D G ad r _ n x hsh hn x2 6 (-1)) _ _ h9) (cwGV 3 okX7_put wmX7_119 hts rfl rfl ⟨Nat.le_of_ble_eq_true rfl, Nat.le_of_ble_eq_true rfl⟩) rfl hl.1 (Nat.le_of_ble_eq_true rfl) dX7_remove_69 ⟨Nat.zero_le _, Nat.zero_le _⟩ rfl) (fun v10 hf H locs hB => ?_)
          obtain ⟨z11, ez9, hf⟩ := nm_x hf
          refine lv_iinc (v := z11) (lv' := [(2, .int z11), (0, .ref (ad 157)), (1, .int x1)]) hx hb dX7_remove_72 hl (k := 2) rfl (by rw [ez9]; rfl) (Nat.le_of_ble_eq_true rfl) rfl (fun ls hl => ?_)
          refine lv_goto (tgt := 39) hx hb dX7_remove_75 rfl ?_
          exact ih _ _ _ _ _ hf hB (lv_sub hl [1, 2, 0] rfl)
set_option maxRecDepth 100000 in
set_option maxHeartbeats 4000000 in
theorem wX7_remove_14 {K : Nat} {x1 : Int32} {t1 : Int32} {res : (Int32 × sV)} (E : CallFix p m c cX7_remove 3 s args wsL_law RX7) (hlocks : meth.locks = false) (hrt : meth.sig.returnType = (some .int)) (hU : sU D G s) (hsh : sSh r) (hn : 172 ≤ n) {v : sV} {H : Heap} {locs : List Loc} (hB : sB D G (sA ad r n s.heap.size) s.heap ad r v n x H locs) {ls : Array Slot} (hf : bX7_remove_14 K x1 t1 v = some res) (hl : lv_has ls 3 [(0, .ref (ad 157)), (1, .int x1)]) :
    W p l e rmX7_remove s m args below meth c H locs 0 0 (MQ below (sQI D G ad r n x s.heap.size res) args s 0 0 (sA ad r n s.heap.size)) (F0 m 14 ls [.int t1, .ref (ad 157)]) := by
  have hx := E.1
  have hb := E.2.1
  have hts := E.2.2.2.2
  have hf := (bX7_remove_14.eq_1 ..).symm.trans hf
  refine s_putI (k := 6) (ty1 := .int) E hU hB sc9 (slt hsh hn 157 rfl) rfl inlX7 (Nat.le_of_ble_eq_true rfl) rfl rfl wkX7_47 rfl rfl rfl rfl dX7_remove_14 hf (fun v2 hf H locs hB => ?_)
  refine lv_aload_n hx hb dX7_remove_17 rfl (lv_at hl 0 rfl) ?_
  refine s_getI (k := 6) E hU hB.1 sc9 (slt hsh hn 157 rfl) rfl inlX7 (Nat.le_of_ble_eq_true rfl) rfl rfl wkX7_47 dX7_remove_18 ?_
  refine lv_if_eq (tgt := 26) hx hb dX7_remove_21 rfl (fun hc => ?_) (fun hc => ?_)
  · have hf := ite_t hf hc
    refine lv_aload_n hx hb dX7_remove_26 rfl (lv_at hl 0 rfl) ?_
    refine sc_V hB (fun q h => Or.inr h) hf (fun q9 h9 => rV_W (As := []) (rest := []) E hU hB sc9 (slt hsh hn 157 rfl) rfl ((mX7_keeps l K D G ad r _ n x hsh hn) _ _ h9) (cwGV 0 okX7_keeps wmX7_96 hts rfl rfl ⟨Nat.le_of_ble_eq_true rfl, Nat.le_of_ble_eq_true rfl⟩) rfl hl.1 (Nat.le_of_ble_eq_true rfl) dX7_remove_27 ⟨Nat.zero_le _, Nat.zero_le _⟩ rfl) (fun v3 hf H locs hB => ?_)
    refine lv_aload_n hx hb dX7_remove_30 rfl (lv_at hl 0 rfl) ?_
    refine lv_iload_n hx hb dX7_remove_31 rfl (lv_at hl 1 rfl) ?_
    refine lv_iconst (v := 0) hx hb dX7_remove_32 rfl ?_
    refine lv_iconst (v := 0) hx hb dX7_remove_33 rfl ?_
    refine sc_V hB (fun q h => Or.inr h) hf (fun q9 h9 => rV_W (As := [.int x1, .int 0, .int 0]) (rest := []) E hU hB sc9 (slt hsh hn 157 rfl) rfl ((mX7_put l D G ad r _ n x hsh hn x1 0 0) _ _ h9) (cwGV 3 okX7_put wmX7_119 hts rfl rfl ⟨Nat.le_of_ble_eq_true rfl, Nat.le_of_ble_eq_true rfl⟩) rfl hl.1 (Nat.le_of_ble_eq_true rfl) dX7_remove_34 ⟨Nat.zero_le _, Nat.zero_le _⟩ rfl) (fun v4 hf H locs hB => ?_)
    refine lv_iconst (v := 0) hx hb dX7_remove_37 rfl ?_
    refine lv_istore_n (lv' := [(2, .int 0), (0, .ref (ad 157)), (1, .int x1)]) hx hb dX7_remove_38 rfl hl (Nat.le_of_ble_eq_true rfl) rfl (fun ls hl => ?_)
    exact lX7_remove_39 E hlocks hrt hU hsh hn _ _ _ _ _ _ hf hB (lv_sub hl [1, 2, 0] rfl)
  · have hf := ite_f hf hc
    refine lv_iconst (v := 0) hx hb dX7_remove_24 rfl ?_
    exact s_iretW E hrt hlocks hB hf dX7_remove_25
set_option maxRecDepth 100000 in
set_option maxHeartbeats 4000000 in
theorem mX7_remove (l : Launch) (K : Nat) (D : va_G) (G : Nat → ClassId) (ad : Nat → Nat) (r : sR) (v : sV) (n : Nat) (x : Int64 × UInt64) (hsh : sSh r) (hn : 172 ≤ n) (x1 : Int32) : sMI l yX7_remove (.code yX7_remove cX7_remove 3 (some .int) :: wsL_law) rmX7_remove D G ad r v n x [.ref (ad 157), .int x1] (fX7_remove K x1 v) := by
  intro sz res hf
  refine Met.ofW (cc := cX7_remove) (maxL := 3) (ret := (some .int)) (by decide) rfl ?_
  intro p e s m args below meth c s₁ B hml hv
  obtain ⟨rfl, rfl, hU, hP, hD⟩ := hv
  have hx := B.exec
  have hb := B.bytes
  have hrt := B.returns
  have hts : ∀ w ∈ wsL_law, w.before _ s = true := fun w hw => atoms_spec (ws := .code yX7_remove cX7_remove 3 (some .int) :: wsL_law) B.pre w (List.mem_cons_of_mem _ hw)
  have hlocks := B.notSynchronized
  have E : CallFix p m c cX7_remove 3 s ([.ref (ad 157), .int x1] : List Value).toArray wsL_law RX7 := ⟨hx, hb, hml, findClass_of_methodNamed B.named, hts⟩
  have hB : sB D G (sA ad r n s.heap.size) s.heap ad r v n x s.heap [] := ⟨hP, sD_self hD, va_S.rf⟩
  have hl := lv_entry ([.ref (ad 157), .int x1]) (n := 3) (Nat.le_of_ble_eq_true rfl)
  rw [lg_entry_eq]
  generalize (lg_sl ([.ref (ad 157), .int x1]) ++ List.replicate (3 - (lg_sl ([.ref (ad 157), .int x1])).length) Slot.unset).toArray = ls at hl ⊢
  have hl : lv_has ls 3 [(0, .ref (ad 157)), (1, .int x1)] := hl
  have hf := (fX7_remove.eq_1 ..).symm.trans hf
  refine lv_aload_n hx hb dX7_remove_0 rfl (lv_at hl 0 rfl) ?_
  refine lv_aload_n hx hb dX7_remove_1 rfl (lv_at hl 0 rfl) ?_
  refine lv_iload_n hx hb dX7_remove_2 rfl (lv_at hl 1 rfl) ?_
  refine sc_R hf (rV_R (As := [.int x1]) (rest := [.ref (ad 157)]) E hU hB.1 sc9 (slt hsh hn 157 rfl) rfl (mX7_isAgent l D G ad r _ n x hsh hn x1) (cwGV 1 okX7_isAgent wmX7_102 hts rfl rfl ⟨Nat.le_of_ble_eq_true rfl, Nat.le_of_ble_eq_true rfl⟩) rfl hl.1 (Nat.le_of_ble_eq_true rfl) dX7_remove_3 ⟨Nat.zero_le _, Nat.zero_le _⟩ rfl) (fun y1 hf => ?_)
  refine lv_if_eq (tgt := 13) hx hb dX7_remove_6 rfl (fun hc => ?_) (fun hc => ?_)
  · have hf := ite_t hf hc
    refine lv_iconst (v := 1) hx hb dX7_remove_13 rfl ?_
    exact wX7_remove_14 E hlocks hrt hU hsh hn hB hf (lv_sub hl [0, 1] rfl)
  · have hf := ite_f hf hc
    refine lv_iconst (v := 0) hx hb dX7_remove_9 rfl ?_
    refine lv_goto (tgt := 14) hx hb dX7_remove_10 rfl ?_
    exact wX7_remove_14 E hlocks hrt hU hsh hn hB hf (lv_sub hl [0, 1] rfl)
abbrev rmX7_change : Room := { frames := 2, cells := 0, slots := 0, locals := 43 }
set_option maxRecDepth 100000 in
set_option maxHeartbeats 4000000 in
theorem wX7_change_69 {K : Nat} {x1 : Int32} {x3 : Int32} {t0 : Int32} {res : (Int32 × sV)} (E : CallFix p m c cX7_change 6 s args wsL_law RX7) (hlocks : meth.locks = false) (hrt : meth.sig.returnType = (some .int)) (hU : sU D G s) (hsh : sSh r) (hn : 172 ≤ n) {v : sV} {H : Heap} {locs : List Loc} (hB : sB D G (sA ad r n s.heap.size) s.heap ad r v n x H locs) {ls : Array Slot} (hf : bX7_change_69 K x1 x3 t0 v = some res) (hl : lv_has ls 6 [(0, .ref (ad 157)), (1, .int x1), (3, .int x3)]) :
    W p l e rmX7_change s m args below meth c H locs 0 0 (MQ below (sQI D G ad r n x s.heap.size res) args s 0 0 (sA ad r n s.heap.size)) (F0 m 69 ls [.int t0]) := by
  have hx := E.1
  have hb := E.2.1
  have hts := E.2.2.2.2
  have hf := (bX7_change_69.eq_1 ..).symm.trans hf
  refine lv_istore (lv' := [(4, .int t0), (0, .ref (ad 157)), (1, .int x1), (3, .int x3)]) hx hb dX7_change_69 hl (Nat.le_of_ble_eq_true rfl) rfl (fun ls hl => ?_)
  refine lv_aload_n hx hb dX7_change_71 rfl (lv_at hl 1 rfl) ?_
  refine lv_iload_n hx hb dX7_change_72 rfl (lv_at hl 2 rfl) ?_
  refine lv_iload hx hb dX7_change_73 (lv_at hl 0 rfl) ?_
  refine sc_R hf (rV_R (As := [.int x1, .int t0]) (rest := []) E hU hB.1 sc9 (slt hsh hn 157 rfl) rfl (mX7_at l D G ad r _ n x hsh hn x1 t0) (cwGV 2 okX7_at wmX7_105 hts rfl rfl ⟨Nat.le_of_ble_eq_true rfl, Nat.le_of_ble_eq_true rfl⟩) rfl hl.1 (Nat.le_of_ble_eq_true rfl) dX7_change_75 ⟨Nat.zero_le _, Nat.zero_le _⟩ rfl) (fun y5 hf => ?_)
  refine lv_istore (lv' := [(5, .int y5), (4, .int t0), (0, .ref (ad 157)), (1, .int x1), (3, .int x3)]) hx hb dX7_change_78 hl (Nat.le_of_ble_eq_true rfl) rfl (fun ls hl => ?_)
  refine lv_aload_n hx hb dX7_change_80 rfl (lv_at hl 2 rfl) ?_
  refine lv_iload_n hx hb dX7_change_81 rfl (lv_at hl 3 rfl) ?_
  refine lv_iload hx hb dX7_change_82 (lv_at hl 1 rfl) ?_
  refine lv_iload_n hx hb dX7_change_84 rfl (lv_at hl 4 rfl) ?_
  refine sc_V hB (fun q h => Or.inr h) hf (fun q9 h9 => rV_W (As := [.int x1, .int t0, .int x3]) (rest := []) E hU hB sc9 (slt hsh hn 157 rfl) rfl ((mX7_put l D G ad r _ n x hsh hn x1 t0 x3) _ _ h9) (cwGV 3 okX7_put wmX7_119 hts rfl rfl ⟨Nat.le_of_ble_eq_true rfl, Nat.le_of_ble_eq_true rfl⟩) rfl hl.1 (Nat.le_of_ble_eq_true rfl) dX7_change_85 ⟨Nat.zero_le _, Nat.zero_le _⟩ rfl) (fun v6 hf H locs hB => ?_)
  refine lv_iload hx hb dX7_change_88 (lv_at hl 0 rfl) ?_
  exact s_iretW E hrt hlocks hB hf dX7_change_90
set_option maxRecDepth 100000 in
set_option maxHeartbeats 4000000 in
theorem wX7_change_44 {K : Nat} {x1 : Int32} {x2 : Int32} {x3 : Int32} {t1 : Int32} {res : (Int32 × sV)} (E : CallFix p m c cX7_change 6 s args wsL_law RX7) (hlocks : meth.locks = false) (hrt : meth.sig.returnType = (some .int)) (hU : sU D G s) (hsh : sSh r) (hn : 172 ≤ n) {v : sV} {H : Heap} {locs : List Loc} (hB : sB D G (sA ad r n s.heap.size) s.heap ad r v n x H locs) {ls : Array Slot} (hf : bX7_change_44 K x1 x2 x3 t1 v = some res) (hl : lv_has ls 6 [(0, .ref (ad 157)), (1, .int x1), (2, .int x2), (3, .int x3)]) :
    W p l e rmX7_change s m args below meth c H locs 0 0 (MQ below (sQI D G ad r n x s.heap.size res) args s 0 0 (sA ad r n s.heap.size)) (F0 m 44 ls [.int t1, .ref (ad 157)]) := by
  have hx := E.1
  have hb := E.2.1
  have hts := E.2.2.2.2
  have hf := (bX7_change_44.eq_1 ..).symm.trans hf
  refine s_putI (k := 6) (ty1 := .int) E hU hB sc9 (slt hsh hn 157 rfl) rfl inlX7 (Nat.le_of_ble_eq_true rfl) rfl rfl wkX7_47 rfl rfl rfl rfl dX7_change_44 hf (fun v3 hf H locs hB => ?_)
  refine lv_aload_n hx hb dX7_change_47 rfl (lv_at hl 0 rfl) ?_
  refine s_getI (k := 6) E hU hB.1 sc9 (slt hsh hn 157 rfl) rfl inlX7 (Nat.le_of_ble_eq_true rfl) rfl rfl wkX7_47 dX7_change_48 ?_
  refine lv_if_eq (tgt := 56) hx hb dX7_change_51 rfl (fun hc => ?_) (fun hc => ?_)
  · have hf := ite_t hf hc
    refine lv_aload_n hx hb dX7_change_56 rfl (lv_at hl 0 rfl) ?_
    refine sc_V hB (fun q h => Or.inr h) hf (fun q9 h9 => rV_W (As := []) (rest := []) E hU hB sc9 (slt hsh hn 157 rfl) rfl ((mX7_keeps l K D G ad r _ n x hsh hn) _ _ h9) (cwGV 0 okX7_keeps wmX7_96 hts rfl rfl ⟨Nat.le_of_ble_eq_true rfl, Nat.le_of_ble_eq_true rfl⟩) rfl hl.1 (Nat.le_of_ble_eq_true rfl) dX7_change_57 ⟨Nat.zero_le _, Nat.zero_le _⟩ rfl) (fun v4 hf H locs hB => ?_)
    refine lv_iload_n hx hb dX7_change_60 rfl (lv_at hl 2 rfl) ?_
    refine lv_if_eq (tgt := 68) hx hb dX7_change_61 rfl (fun hc => ?_) (fun hc => ?_)
    · have hf := ite_t hf hc
      refine lv_iconst (v := 3) hx hb dX7_change_68 rfl ?_
      exact wX7_change_69 E hlocks hrt hU hsh hn hB hf (lv_sub hl [0, 1, 3] rfl)
    · have hf := ite_f hf hc
      refine lv_iconst (v := 2) hx hb dX7_change_64 rfl ?_
      refine lv_goto (tgt := 69) hx hb dX7_change_65 rfl ?_
      exact wX7_change_69 E hlocks hrt hU hsh hn hB hf (lv_sub hl [0, 1, 3] rfl)
  · have hf := ite_f hf hc
    refine lv_iconst (v := 0) hx hb dX7_change_54 rfl ?_
    exact s_iretW E hrt hlocks hB hf dX7_change_55
set_option maxRecDepth 100000 in
set_option maxHeartbeats 4000000 in
theorem mX7_change (l : Launch) (K : Nat) (D : va_G) (G : Nat → ClassId) (ad : Nat → Nat) (r : sR) (v : sV) (n : Nat) (x : Int64 × UInt64) (hsh : sSh r) (hn : 172 ≤ n) (x1 : Int32) (x2 : Int32) (x3 : Int32) : sMI l yX7_change (.code yX7_change cX7_change 6 (some .int) :: wsL_law) rmX7_change D G ad r v n x [.ref (ad 157), .int x1, .int x2, .int x3] (fX7_change K x1 x2 x3 v) := by
  intro sz res hf
  refine Met.ofW (cc := cX7_change) (maxL := 6) (ret := (some .int)) (by decide) rfl ?_
  intro p e s m args below meth c s₁ B hml hv
  obtain ⟨rfl, rfl, hU, hP, hD⟩ := hv
  have hx := B.exec
  have hb := B.bytes
  have hrt := B.returns
  have hts : ∀ w ∈ wsL_law, w.before _ s = true := fun w hw => atoms_spec (ws := .code yX7_change cX7_change 6 (some .int) :: wsL_law) B.pre w (List.mem_cons_of_mem _ hw)
  have hlocks := B.notSynchronized
  have E : CallFix p m c cX7_change 6 s ([.ref (ad 157), .int x1, .int x2, .int x3] : List Value).toArray wsL_law RX7 := ⟨hx, hb, hml, findClass_of_methodNamed B.named, hts⟩
  have hB : sB D G (sA ad r n s.heap.size) s.heap ad r v n x s.heap [] := ⟨hP, sD_self hD, va_S.rf⟩
  have hl := lv_entry ([.ref (ad 157), .int x1, .int x2, .int x3]) (n := 6) (Nat.le_of_ble_eq_true rfl)
  rw [lg_entry_eq]
  generalize (lg_sl ([.ref (ad 157), .int x1, .int x2, .int x3]) ++ List.replicate (6 - (lg_sl ([.ref (ad 157), .int x1, .int x2, .int x3])).length) Slot.unset).toArray = ls at hl ⊢
  have hl : lv_has ls 6 [(0, .ref (ad 157)), (1, .int x1), (2, .int x2), (3, .int x3)] := hl
  have hf := (fX7_change.eq_1 ..).symm.trans hf
  refine lv_aload_n hx hb dX7_change_0 rfl (lv_at hl 0 rfl) ?_
  refine lv_aload_n hx hb dX7_change_1 rfl (lv_at hl 0 rfl) ?_
  refine lv_iload_n hx hb dX7_change_2 rfl (lv_at hl 1 rfl) ?_
  refine sc_R hf (rV_R (As := [.int x1]) (rest := [.ref (ad 157)]) E hU hB.1 sc9 (slt hsh hn 157 rfl) rfl (mX7_isAgent l D G ad r _ n x hsh hn x1) (cwGV 1 okX7_isAgent wmX7_102 hts rfl rfl ⟨Nat.le_of_ble_eq_true rfl, Nat.le_of_ble_eq_true rfl⟩) rfl hl.1 (Nat.le_of_ble_eq_true rfl) dX7_change_3 ⟨Nat.zero_le _, Nat.zero_le _⟩ rfl) (fun y1 hf => ?_)
  refine lv_if_ne (tgt := 13) hx hb dX7_change_6 rfl (fun hc => ?_) (fun hc => ?_)
  · have hf := ite_f hf hc
    refine lv_iload_n hx hb dX7_change_13 rfl (lv_at hl 2 rfl) ?_
    refine lv_if_eq (tgt := 29) hx hb dX7_change_14 rfl (fun hc => ?_) (fun hc => ?_)
    · have hf := ite_t hf hc
      refine lv_iload_n hx hb dX7_change_29 rfl (lv_at hl 3 rfl) ?_
      refine lv_iconst (v := 0) hx hb dX7_change_30 rfl ?_
      refine lv_bipush (v := 9) hx hb dX7_change_31 rfl ?_
      refine sc_R hf (rS_S (As := [.int x3, .int 0, .int 9]) (rest := [.ref (ad 157)]) E (mX7_isIn l x3 0 9) (cwGS 3 okX7_isIn wmX7_51 hts rfl rfl ⟨Nat.le_of_ble_eq_true rfl, Nat.le_of_ble_eq_true rfl⟩) rfl hl.1 (Nat.le_of_ble_eq_true rfl) dX7_change_33 ⟨Nat.zero_le _, Nat.zero_le _⟩ rfl) (fun y2 hf => ?_)
      refine lv_if_eq (tgt := 43) hx hb dX7_change_36 rfl (fun hc => ?_) (fun hc => ?_)
      · have hf := ite_t hf hc
        refine lv_iconst (v := 2) hx hb dX7_change_43 rfl ?_
        exact wX7_change_44 E hlocks hrt hU hsh hn hB hf (lv_sub hl [0, 1, 2, 3] rfl)
      · have hf := ite_f hf hc
        refine lv_iconst (v := 0) hx hb dX7_change_39 rfl ?_
        refine lv_goto (tgt := 44) hx hb dX7_change_40 rfl ?_
        exact wX7_change_44 E hlocks hrt hU hsh hn hB hf (lv_sub hl [0, 1, 2, 3] rfl)
    · have hf := ite_f hf hc
      refine lv_iload_n hx hb dX7_change_17 rfl (lv_at hl 3 rfl) ?_
      refine lv_iconst (v := (-1)) hx hb dX7_change_18 rfl ?_
      refine lv_iconst (v := 3) hx hb dX7_change_19 rfl ?_
      refine sc_R hf (rS_S (As := [.int x3, .int (-1), .int 3]) (rest := [.ref (ad 157)]) E (mX7_isIn l x3 (-1) 3) (cwGS 3 okX7_isIn wmX7_51 hts rfl rfl ⟨Nat.le_of_ble_eq_true rfl, Nat.le_of_ble_eq_true rfl⟩) rfl hl.1 (Nat.le_of_ble_eq_true rfl) dX7_change_20 ⟨Nat.zero_le _, Nat.zero_le _⟩ rfl) (fun y7 hf => ?_)
      refine lv_if_eq (tgt := 43) hx hb dX7_change_23 rfl (fun hc => ?_) (fun hc => ?_)
      · have hf := ite_t hf hc
        refine lv_iconst (v := 2) hx hb dX7_change_43 rfl ?_
        exact wX7_change_44 E hlocks hrt hU hsh hn hB hf (lv_sub hl [0, 1, 2, 3] rfl)
      · have hf := ite_f hf hc
        refine lv_goto (tgt := 39) hx hb dX7_change_26 rfl ?_
        refine lv_iconst (v := 0) hx hb dX7_change_39 rfl ?_
        refine lv_goto (tgt := 44) hx hb dX7_change_40 rfl ?_
        exact wX7_change_44 E hlocks hrt hU hsh hn hB hf (lv_sub hl [0, 1, 2, 3] rfl)
  · have hf := ite_t hf hc
    refine lv_iconst (v := 1) hx hb dX7_change_9 rfl ?_
    refine lv_goto (tgt := 44) hx hb dX7_change_10 rfl ?_
    exact wX7_change_44 E hlocks hrt hU hsh hn hB hf (lv_sub hl [0, 1, 2, 3] rfl)
abbrev rmX7_target : Room := { frames := 2, cells := 0, slots := 0, locals := 43 }
set_option maxRecDepth 100000 in
set_option maxHeartbeats 4000000 in
theorem wX7_target_136 {x2 : Int32} {x6 : Int32} {t0 : Int32} {res : Int32} (E : CallFix p m c cX7_target 11 s args wsL_law RX7) (hlocks : meth.locks = false) (hrt : meth.sig.returnType = (some .int)) (hU : sU D G s) (hsh : sSh r) (hn : 172 ≤ n) {v : sV} (hP : va_P D vwCl (sWl G ad r v n x) s.heap) {ls : Array Slot} (hf : bX7_target_136 x2 x6 t0 v = some res) (hl : lv_has ls 11 [(0, .ref (ad 157)), (2, .int x2), (6, .int x6)]) :
    W p l e rmX7_target s m args below meth c s.heap [] 0 0 (MQ below (vp_Si (fun q => q = res)) args s 0 0 (fun _ => False)) (F0 m 136 ls [.int t0]) := by
  have hx := E.1
  have hb := E.2.1
  have hts := E.2.2.2.2
  have hf := (bX7_target_136.eq_1 ..).symm.trans hf
  refine lv_istore (lv' := [(7, .int t0), (0, .ref (ad 157)), (2, .int x2), (6, .int x6)]) hx hb dX7_target_136 hl (Nat.le_of_ble_eq_true rfl) rfl (fun ls hl => ?_)
  refine lv_aload_n hx hb dX7_target_138 rfl (lv_at hl 1 rfl) ?_
  refine lv_iload_n hx hb dX7_target_139 rfl (lv_at hl 2 rfl) ?_
  refine lv_iconst (v := 1) hx hb dX7_target_140 rfl ?_
  refine sc_R hf (rV_R (As := [.int x2, .int 1]) (rest := []) E hU hP sc9 (slt hsh hn 157 rfl) rfl (mX7_at l D G ad r _ n x hsh hn x2 1) (cwGV 2 okX7_at wmX7_105 hts rfl rfl ⟨Nat.le_of_ble_eq_true rfl, Nat.le_of_ble_eq_true rfl⟩) rfl hl.1 (Nat.le_of_ble_eq_true rfl) dX7_target_141 ⟨Nat.zero_le _, Nat.zero_le _⟩ rfl) (fun y5 hf => ?_)
  refine lv_istore (lv' := [(8, .int y5), (7, .int t0), (0, .ref (ad 157)), (2, .int x2), (6, .int x6)]) hx hb dX7_target_144 hl (Nat.le_of_ble_eq_true rfl) rfl (fun ls hl => ?_)
  refine lv_iload hx hb dX7_target_146 (lv_at hl 0 rfl) ?_
  refine sc_R hf (rS_S (As := [.int y5]) (rest := []) E (mX7_columnOf l y5) (cwGS 1 okX7_columnOf wmX7_55 hts rfl rfl ⟨Nat.le_of_ble_eq_true rfl, Nat.le_of_ble_eq_true rfl⟩) rfl hl.1 (Nat.le_of_ble_eq_true rfl) dX7_target_148 ⟨Nat.zero_le _, Nat.zero_le _⟩ rfl) (fun y6 hf => ?_)
  refine lv_iload hx hb dX7_target_151 (lv_at hl 4 rfl) ?_
  refine lv_iadd hx hb dX7_target_153 ?_
  refine s_nm hf (fun z7 hf => ?_)
  refine lv_istore (lv' := [(9, .int z7), (8, .int y5), (7, .int t0), (0, .ref (ad 157)), (2, .int x2), (6, .int x6)]) hx hb dX7_target_154 hl (Nat.le_of_ble_eq_true rfl) rfl (fun ls hl => ?_)
  refine lv_iload hx hb dX7_target_156 (lv_at hl 1 rfl) ?_
  refine sc_R hf (rS_S (As := [.int y5]) (rest := []) E (mX7_rowOf l y5) (cwGS 1 okX7_rowOf wmX7_59 hts rfl rfl ⟨Nat.le_of_ble_eq_true rfl, Nat.le_of_ble_eq_true rfl⟩) rfl hl.1 (Nat.le_of_ble_eq_true rfl) dX7_target_158 ⟨Nat.zero_le _, Nat.zero_le _⟩ rfl) (fun y8 hf => ?_)
  refine lv_iload hx hb dX7_target_161 (lv_at hl 2 rfl) ?_
  refine lv_iadd hx hb dX7_target_163 ?_
  refine s_nm hf (fun z9 hf => ?_)
  refine lv_istore (lv' := [(10, .int z9), (9, .int z7), (8, .int y5), (7, .int t0), (0, .ref (ad 157)), (2, .int x2), (6, .int x6)]) hx hb dX7_target_164 hl (Nat.le_of_ble_eq_true rfl) rfl (fun ls hl => ?_)
  refine lv_iload hx hb dX7_target_166 (lv_at hl 1 rfl) ?_
  refine lv_iload hx hb dX7_target_168 (lv_at hl 0 rfl) ?_
  refine sc_R hf (rS_S (As := [.int z7, .int z9]) (rest := []) E (mX7_isCell l z7 z9) (cwGS 2 okX7_isCell wmX7_62 hts rfl rfl ⟨Nat.le_of_ble_eq_true rfl, Nat.le_of_ble_eq_true rfl⟩) rfl hl.1 (Nat.le_of_ble_eq_true rfl) dX7_target_170 ⟨Nat.zero_le _, Nat.zero_le _⟩ rfl) (fun y10 hf => ?_)
  refine lv_if_eq (tgt := 200) hx hb dX7_target_173 rfl (fun hc => ?_) (fun hc => ?_)
  · have hf := ite_t hf hc
    refine lv_iload hx hb dX7_target_200 (lv_at hl 2 rfl) ?_
    exact s_iretR E hrt hlocks hf dX7_target_202
  · have hf := ite_f hf hc
    refine lv_aload_n hx hb dX7_target_176 rfl (lv_at hl 4 rfl) ?_
    refine lv_iload hx hb dX7_target_177 (lv_at hl 1 rfl) ?_
    refine lv_iload hx hb dX7_target_179 (lv_at hl 0 rfl) ?_
    refine sc_R hf (rS_S (As := [.int z7, .int z9]) (rest := [.ref (ad 157)]) E (mX7_cellAt l z7 z9) (cwGS 2 okX7_cellAt wmX7_66 hts rfl rfl ⟨Nat.le_of_ble_eq_true rfl, Nat.le_of_ble_eq_true rfl⟩) rfl hl.1 (Nat.le_of_ble_eq_true rfl) dX7_target_181 ⟨Nat.zero_le _, Nat.zero_le _⟩ rfl) (fun y11 hf => ?_)
    refine sc_R hf (rV_R (As := [.int y11]) (rest := []) E hU hP sc9 (slt hsh hn 157 rfl) rfl (mX7_isFree l D G ad r _ n x hsh hn y11) (cwGV 1 okX7_isFree wmX7_79 hts rfl rfl ⟨Nat.le_of_ble_eq_true rfl, Nat.le_of_ble_eq_true rfl⟩) rfl hl.1 (Nat.le_of_ble_eq_true rfl) dX7_target_184 ⟨Nat.zero_le _, Nat.zero_le _⟩ rfl) (fun y12 hf => ?_)
    refine lv_if_eq (tgt := 200) hx hb dX7_target_187 rfl (fun hc => ?_) (fun hc => ?_)
    · have hf := ite_t hf hc
      refine lv_iload hx hb dX7_target_200 (lv_at hl 2 rfl) ?_
      exact s_iretR E hrt hlocks hf dX7_target_202
    · have hf := ite_f hf hc
      refine lv_iload hx hb dX7_target_190 (lv_at hl 1 rfl) ?_
      refine lv_iload hx hb dX7_target_192 (lv_at hl 0 rfl) ?_
      refine sc_R hf (rS_S (As := [.int z7, .int z9]) (rest := []) E (mX7_cellAt l z7 z9) (cwGS 2 okX7_cellAt wmX7_66 hts rfl rfl ⟨Nat.le_of_ble_eq_true rfl, Nat.le_of_ble_eq_true rfl⟩) rfl hl.1 (Nat.le_of_ble_eq_true rfl) dX7_target_194 ⟨Nat.zero_le _, Nat.zero_le _⟩ rfl) (fun y13 hf => ?_)
      refine lv_goto (tgt := 202) hx hb dX7_target_197 rfl ?_
      exact s_iretR E hrt hlocks hf dX7_target_202
set_option maxRecDepth 100000 in
set_option maxHeartbeats 4000000 in
theorem wX7_target_100 {x2 : Int32} {x3 : Int32} {x4 : Int32} {x5 : Int32} {t0 : Int32} {res : Int32} (E : CallFix p m c cX7_target 11 s args wsL_law RX7) (hlocks : meth.locks = false) (hrt : meth.sig.returnType = (some .int)) (hU : sU D G s) (hsh : sSh r) (hn : 172 ≤ n) {v : sV} (hP : va_P D vwCl (sWl G ad r v n x) s.heap) {ls : Array Slot} (hf : bX7_target_100 x2 x3 x4 x5 t0 v = some res) (hl : lv_has ls 11 [(0, .ref (ad 157)), (2, .int x2), (3, .int x3), (4, .int x4), (5, .int x5)]) :
    W p l e rmX7_target s m args below meth c s.heap [] 0 0 (MQ below (vp_Si (fun q => q = res)) args s 0 0 (fun _ => False)) (F0 m 100 ls [.int t0]) := by
  have hx := E.1
  have hb := E.2.1
  have hts := E.2.2.2.2
  have hf := (bX7_target_100.eq_1 ..).symm.trans hf
  refine lv_istore (lv' := [(6, .int t0), (0, .ref (ad 157)), (2, .int x2), (3, .int x3), (4, .int x4), (5, .int x5)]) hx hb dX7_target_100 hl (Nat.le_of_ble_eq_true rfl) rfl (fun ls hl => ?_)
  refine lv_iload hx hb dX7_target_102 (lv_at hl 5 rfl) ?_
  refine lv_if_ne (tgt := 112) hx hb dX7_target_104 rfl (fun hc => ?_) (fun hc => ?_)
  · have hf := ite_f hf hc
    refine lv_iload hx hb dX7_target_112 (lv_at hl 5 rfl) ?_
    refine lv_iconst (v := 1) hx hb dX7_target_114 rfl ?_
    refine lv_icmp_ne (tgt := 122) hx hb dX7_target_115 rfl (fun hc => ?_) (fun hc => ?_)
    · have hf := ite_f hf hc
      refine lv_iload hx hb dX7_target_122 (lv_at hl 5 rfl) ?_
      refine lv_iconst (v := 2) hx hb dX7_target_124 rfl ?_
      refine lv_icmp_ne (tgt := 134) hx hb dX7_target_125 rfl (fun hc => ?_) (fun hc => ?_)
      · have hf := ite_f hf hc
        refine lv_iload_n hx hb dX7_target_134 rfl (lv_at hl 3 rfl) ?_
        refine lv_ineg hx hb dX7_target_135 ?_
        exact wX7_target_136 E hlocks hrt hU hsh hn hP hf (lv_sub hl [1, 2, 0] rfl)
      · have hf := ite_t hf hc
        refine lv_iload hx hb dX7_target_128 (lv_at hl 4 rfl) ?_
        refine lv_ineg hx hb dX7_target_130 ?_
        refine lv_goto (tgt := 136) hx hb dX7_target_131 rfl ?_
        exact wX7_target_136 E hlocks hrt hU hsh hn hP hf (lv_sub hl [1, 2, 0] rfl)
    · have hf := ite_t hf hc
      refine lv_iload_n hx hb dX7_target_118 rfl (lv_at hl 3 rfl) ?_
      refine lv_goto (tgt := 136) hx hb dX7_target_119 rfl ?_
      exact wX7_target_136 E hlocks hrt hU hsh hn hP hf (lv_sub hl [1, 2, 0] rfl)
  · have hf := ite_t hf hc
    refine lv_iload hx hb dX7_target_107 (lv_at hl 4 rfl) ?_
    refine lv_goto (tgt := 136) hx hb dX7_target_109 rfl ?_
    exact wX7_target_136 E hlocks hrt hU hsh hn hP hf (lv_sub hl [1, 2, 0] rfl)
set_option maxRecDepth 100000 in
set_option maxHeartbeats 4000000 in
theorem mX7_target (l : Launch) (D : va_G) (G : Nat → ClassId) (ad : Nat → Nat) (r : sR) (v : sV) (n : Nat) (x : Int64 × UInt64) (hsh : sSh r) (hn : 172 ≤ n) (x1 : Int32) : sMR l yX7_target (.code yX7_target cX7_target 11 (some .int) :: wsL_law) rmX7_target D G ad r v n x [.ref (ad 157), .int x1] (fX7_target x1 v) := by
  intro res hf
  refine Met.ofW (cc := cX7_target) (maxL := 11) (ret := (some .int)) (by decide) rfl ?_
  intro p e s m args below meth c s₁ B hml hv
  obtain ⟨rfl, hU, hP⟩ := hv
  have hx := B.exec
  have hb := B.bytes
  have hrt := B.returns
  have hts : ∀ w ∈ wsL_law, w.before _ s = true := fun w hw => atoms_spec (ws := .code yX7_target cX7_target 11 (some .int) :: wsL_law) B.pre w (List.mem_cons_of_mem _ hw)
  have hlocks := B.notSynchronized
  have E : CallFix p m c cX7_target 11 s ([.ref (ad 157), .int x1] : List Value).toArray wsL_law RX7 := ⟨hx, hb, hml, findClass_of_methodNamed B.named, hts⟩
  have hl := lv_entry ([.ref (ad 157), .int x1]) (n := 11) (Nat.le_of_ble_eq_true rfl)
  rw [lg_entry_eq]
  generalize (lg_sl ([.ref (ad 157), .int x1]) ++ List.replicate (11 - (lg_sl ([.ref (ad 157), .int x1])).length) Slot.unset).toArray = ls at hl ⊢
  have hl : lv_has ls 11 [(0, .ref (ad 157)), (1, .int x1)] := hl
  have hf := (fX7_target.eq_1 ..).symm.trans hf
  refine lv_aload_n hx hb dX7_target_0 rfl (lv_at hl 0 rfl) ?_
  refine lv_iload_n hx hb dX7_target_1 rfl (lv_at hl 1 rfl) ?_
  refine lv_bipush (v := 6) hx hb dX7_target_2 rfl ?_
  refine sc_R hf (rV_R (As := [.int x1, .int 6]) (rest := []) E hU hP sc9 (slt hsh hn 157 rfl) rfl (mX7_at l D G ad r _ n x hsh hn x1 6) (cwGV 2 okX7_at wmX7_105 hts rfl rfl ⟨Nat.le_of_ble_eq_true rfl, Nat.le_of_ble_eq_true rfl⟩) rfl hl.1 (Nat.le_of_ble_eq_true rfl) dX7_target_4 ⟨Nat.zero_le _, Nat.zero_le _⟩ rfl) (fun y1 hf => ?_)
  refine lv_istore_n (lv' := [(2, .int y1), (0, .ref (ad 157)), (1, .int x1)]) hx hb dX7_target_7 rfl hl (Nat.le_of_ble_eq_true rfl) rfl (fun ls hl => ?_)
  refine lv_iload_n hx hb dX7_target_8 rfl (lv_at hl 0 rfl) ?_
  refine lv_if_ge (tgt := 41) hx hb dX7_target_9 rfl (fun hc => ?_) (fun hc => ?_)
  · have hf := ite_t hf hc
    refine lv_aload_n hx hb dX7_target_41 rfl (lv_at hl 1 rfl) ?_
    refine lv_iload_n hx hb dX7_target_42 rfl (lv_at hl 2 rfl) ?_
    refine lv_bipush (v := 7) hx hb dX7_target_43 rfl ?_
    refine sc_R hf (rV_R (As := [.int x1, .int 7]) (rest := []) E hU hP sc9 (slt hsh hn 157 rfl) rfl (mX7_at l D G ad r _ n x hsh hn x1 7) (cwGV 2 okX7_at wmX7_105 hts rfl rfl ⟨Nat.le_of_ble_eq_true rfl, Nat.le_of_ble_eq_true rfl⟩) rfl hl.1 (Nat.le_of_ble_eq_true rfl) dX7_target_45 ⟨Nat.zero_le _, Nat.zero_le _⟩ rfl) (fun y2 hf => ?_)
    refine lv_istore_n (lv' := [(3, .int y2), (2, .int y1), (0, .ref (ad 157)), (1, .int x1)]) hx hb dX7_target_48 rfl hl (Nat.le_of_ble_eq_true rfl) rfl (fun ls hl => ?_)
    refine lv_aload_n hx hb dX7_target_49 rfl (lv_at hl 2 rfl) ?_
    refine lv_iload_n hx hb dX7_target_50 rfl (lv_at hl 3 rfl) ?_
    refine lv_bipush (v := 8) hx hb dX7_target_51 rfl ?_
    refine sc_R hf (rV_R (As := [.int x1, .int 8]) (rest := []) E hU hP sc9 (slt hsh hn 157 rfl) rfl (mX7_at l D G ad r _ n x hsh hn x1 8) (cwGV 2 okX7_at wmX7_105 hts rfl rfl ⟨Nat.le_of_ble_eq_true rfl, Nat.le_of_ble_eq_true rfl⟩) rfl hl.1 (Nat.le_of_ble_eq_true rfl) dX7_target_53 ⟨Nat.zero_le _, Nat.zero_le _⟩ rfl) (fun y3 hf => ?_)
    refine lv_istore (lv' := [(4, .int y3), (3, .int y2), (2, .int y1), (0, .ref (ad 157)), (1, .int x1)]) hx hb dX7_target_56 hl (Nat.le_of_ble_eq_true rfl) rfl (fun ls hl => ?_)
    refine lv_aload_n hx hb dX7_target_58 rfl (lv_at hl 3 rfl) ?_
    refine lv_iload_n hx hb dX7_target_59 rfl (lv_at hl 2 rfl) ?_
    refine lv_iconst (v := 4) hx hb dX7_target_60 rfl ?_
    refine sc_R hf (rV_R (As := [.int y1, .int 4]) (rest := []) E hU hP sc9 (slt hsh hn 157 rfl) rfl (mX7_at l D G ad r _ n x hsh hn y1 4) (cwGV 2 okX7_at wmX7_105 hts rfl rfl ⟨Nat.le_of_ble_eq_true rfl, Nat.le_of_ble_eq_true rfl⟩) rfl hl.1 (Nat.le_of_ble_eq_true rfl) dX7_target_61 ⟨Nat.zero_le _, Nat.zero_le _⟩ rfl) (fun y4 hf => ?_)
    refine lv_istore (lv' := [(5, .int y4), (4, .int y3), (3, .int y2), (2, .int y1), (0, .ref (ad 157)), (1, .int x1)]) hx hb dX7_target_64 hl (Nat.le_of_ble_eq_true rfl) rfl (fun ls hl => ?_)
    refine lv_iload hx hb dX7_target_66 (lv_at hl 0 rfl) ?_
    refine lv_if_ne (tgt := 75) hx hb dX7_target_68 rfl (fun hc => ?_) (fun hc => ?_)
    · have hf := ite_f hf hc
      refine lv_iload hx hb dX7_target_75 (lv_at hl 0 rfl) ?_
      refine lv_iconst (v := 1) hx hb dX7_target_77 rfl ?_
      refine lv_icmp_ne (tgt := 87) hx hb dX7_target_78 rfl (fun hc => ?_) (fun hc => ?_)
      · have hf := ite_f hf hc
        refine lv_iload hx hb dX7_target_87 (lv_at hl 0 rfl) ?_
        refine lv_iconst (v := 2) hx hb dX7_target_89 rfl ?_
        refine lv_icmp_ne (tgt := 98) hx hb dX7_target_90 rfl (fun hc => ?_) (fun hc => ?_)
        · have hf := ite_f hf hc
          refine lv_iload hx hb dX7_target_98 (lv_at hl 1 rfl) ?_
          exact wX7_target_100 E hlocks hrt hU hsh hn hP hf (lv_sub hl [4, 3, 2, 1, 0] rfl)
        · have hf := ite_t hf hc
          refine lv_iload_n hx hb dX7_target_93 rfl (lv_at hl 2 rfl) ?_
          refine lv_ineg hx hb dX7_target_94 ?_
          refine lv_goto (tgt := 100) hx hb dX7_target_95 rfl ?_
          exact wX7_target_100 E hlocks hrt hU hsh hn hP hf (lv_sub hl [4, 3, 2, 1, 0] rfl)
      · have hf := ite_t hf hc
        refine lv_iload hx hb dX7_target_81 (lv_at hl 1 rfl) ?_
        refine lv_ineg hx hb dX7_target_83 ?_
        refine lv_goto (tgt := 100) hx hb dX7_target_84 rfl ?_
        exact wX7_target_100 E hlocks hrt hU hsh hn hP hf (lv_sub hl [4, 3, 2, 1, 0] rfl)
    · have hf := ite_t hf hc
      refine lv_iload_n hx hb dX7_target_71 rfl (lv_at hl 2 rfl) ?_
      refine lv_goto (tgt := 100) hx hb dX7_target_72 rfl ?_
      exact wX7_target_100 E hlocks hrt hU hsh hn hP hf (lv_sub hl [4, 3, 2, 1, 0] rfl)
  · have hf := ite_f hf hc
    refine lv_aload_n hx hb dX7_target_12 rfl (lv_at hl 1 rfl) ?_
    refine lv_iload_n hx hb dX7_target_13 rfl (lv_at hl 2 rfl) ?_
    refine lv_iconst (v := 2) hx hb dX7_target_14 rfl ?_
    refine sc_R hf (rV_R (As := [.int x1, .int 2]) (rest := []) E hU hP sc9 (slt hsh hn 157 rfl) rfl (mX7_at l D G ad r _ n x hsh hn x1 2) (cwGV 2 okX7_at wmX7_105 hts rfl rfl ⟨Nat.le_of_ble_eq_true rfl, Nat.le_of_ble_eq_true rfl⟩) rfl hl.1 (Nat.le_of_ble_eq_true rfl) dX7_target_15 ⟨Nat.zero_le _, Nat.zero_le _⟩ rfl) (fun y14 hf => ?_)
    refine lv_if_ge (tgt := 25) hx hb dX7_target_18 rfl (fun hc => ?_) (fun hc => ?_)
    · have hf := ite_t hf hc
      refine lv_aload_n hx hb dX7_target_25 rfl (lv_at hl 1 rfl) ?_
      refine s_getR (k := 0) (t := 158) E hU hP sc9 (slt hsh hn 157 rfl) rfl inlX7 (Nat.le_of_ble_eq_true rfl) rfl rfl wkX7_9 (hsh.1 157 0 158 rfl) dX7_target_26 ?_
      refine lv_sipush (v := 280) hx hb dX7_target_29 rfl ?_
      refine lv_aload_n hx hb dX7_target_32 rfl (lv_at hl 1 rfl) ?_
      refine lv_iload_n hx hb dX7_target_33 rfl (lv_at hl 2 rfl) ?_
      refine lv_iconst (v := 2) hx hb dX7_target_34 rfl ?_
      refine sc_R hf (rV_R (As := [.int x1, .int 2]) (rest := [.int 280, .ref (ad 158)]) E hU hP sc9 (slt hsh hn 157 rfl) rfl (mX7_at l D G ad r _ n x hsh hn x1 2) (cwGV 2 okX7_at wmX7_105 hts rfl rfl ⟨Nat.le_of_ble_eq_true rfl, Nat.le_of_ble_eq_true rfl⟩) rfl hl.1 (Nat.le_of_ble_eq_true rfl) dX7_target_35 ⟨Nat.zero_le _, Nat.zero_le _⟩ rfl) (fun y15 hf => ?_)
      refine lv_iadd hx hb dX7_target_38 ?_
      refine s_iald E hU hP (slt hsh hn 158 rfl) rfl dX7_target_39 hf (fun y16 hf => ?_)
      exact s_iretR E hrt hlocks hf dX7_target_40
    · have hf := ite_f hf hc
      refine lv_iconst (v := (-1)) hx hb dX7_target_21 rfl ?_
      refine lv_goto (tgt := 40) hx hb dX7_target_22 rfl ?_
      exact s_iretR E hrt hlocks hf dX7_target_40
abbrev rmX7_isSettled : Room := { frames := 3, cells := 0, slots := 0, locals := 73 }
set_option maxRecDepth 100000 in
set_option maxHeartbeats 4000000 in
theorem mX7_isSettled (l : Launch) (D : va_G) (G : Nat → ClassId) (ad : Nat → Nat) (r : sR) (v : sV) (n : Nat) (x : Int64 × UInt64) (hsh : sSh r) (hn : 172 ≤ n) (x1 : Int32) : sMR l yX7_isSettled (.code yX7_isSettled cX7_isSettled 3 (some .boolean) :: wsL_law) rmX7_isSettled D G ad r v n x [.ref (ad 157), .int x1] (fX7_isSettled x1 v) := by
  intro res hf
  refine Met.ofW (cc := cX7_isSettled) (maxL := 3) (ret := (some .boolean)) (by decide) rfl ?_
  intro p e s m args below meth c s₁ B hml hv
  obtain ⟨rfl, hU, hP⟩ := hv
  have hx := B.exec
  have hb := B.bytes
  have hrt := B.returns
  have hts : ∀ w ∈ wsL_law, w.before _ s = true := fun w hw => atoms_spec (ws := .code yX7_isSettled cX7_isSettled 3 (some .boolean) :: wsL_law) B.pre w (List.mem_cons_of_mem _ hw)
  have hlocks := B.notSynchronized
  have E : CallFix p m c cX7_isSettled 3 s ([.ref (ad 157), .int x1] : List Value).toArray wsL_law RX7 := ⟨hx, hb, hml, findClass_of_methodNamed B.named, hts⟩
  have hl := lv_entry ([.ref (ad 157), .int x1]) (n := 3) (Nat.le_of_ble_eq_true rfl)
  rw [lg_entry_eq]
  generalize (lg_sl ([.ref (ad 157), .int x1]) ++ List.replicate (3 - (lg_sl ([.ref (ad 157), .int x1])).length) Slot.unset).toArray = ls at hl ⊢
  have hl : lv_has ls 3 [(0, .ref (ad 157)), (1, .int x1)] := hl
  have hf := (fX7_isSettled.eq_1 ..).symm.trans hf
  refine lv_aload_n hx hb dX7_isSettled_0 rfl (lv_at hl 0 rfl) ?_
  refine lv_iload_n hx hb dX7_isSettled_1 rfl (lv_at hl 1 rfl) ?_
  refine sc_R hf (rV_R (As := [.int x1]) (rest := []) E hU hP sc9 (slt hsh hn 157 rfl) rfl (mX7_target l D G ad r _ n x hsh hn x1) (cwGV 1 okX7_target wmX7_123 hts rfl rfl ⟨Nat.le_of_ble_eq_true rfl, Nat.le_of_ble_eq_true rfl⟩) rfl hl.1 (Nat.le_of_ble_eq_true rfl) dX7_isSettled_2 ⟨Nat.zero_le _, Nat.zero_le _⟩ rfl) (fun y1 hf => ?_)
  refine lv_istore_n (lv' := [(2, .int y1), (0, .ref (ad 157)), (1, .int x1)]) hx hb dX7_isSettled_5 rfl hl (Nat.le_of_ble_eq_true rfl) rfl (fun ls hl => ?_)
  refine lv_iload_n hx hb dX7_isSettled_6 rfl (lv_at hl 0 rfl) ?_
  refine lv_if_lt (tgt := 20) hx hb dX7_isSettled_7 rfl (fun hc => ?_) (fun hc => ?_)
  · have hf := ite_t hf hc
    refine lv_iconst (v := 1) hx hb dX7_isSettled_20 rfl ?_
    refine lv_goto (tgt := 25) hx hb dX7_isSettled_21 rfl ?_
    exact s_zretR E hrt hlocks rfl hf dX7_isSettled_25
  · have hf := ite_f hf hc
    refine lv_iload_n hx hb dX7_isSettled_10 rfl (lv_at hl 0 rfl) ?_
    refine lv_aload_n hx hb dX7_isSettled_11 rfl (lv_at hl 1 rfl) ?_
    refine lv_iload_n hx hb dX7_isSettled_12 rfl (lv_at hl 2 rfl) ?_
    refine lv_iconst (v := 1) hx hb dX7_isSettled_13 rfl ?_
    refine sc_R hf (rV_R (As := [.int x1, .int 1]) (rest := [.int y1]) E hU hP sc9 (slt hsh hn 157 rfl) rfl (mX7_at l D G ad r _ n x hsh hn x1 1) (cwGV 2 okX7_at wmX7_105 hts rfl rfl ⟨Nat.le_of_ble_eq_true rfl, Nat.le_of_ble_eq_true rfl⟩) rfl hl.1 (Nat.le_of_ble_eq_true rfl) dX7_isSettled_14 ⟨Nat.zero_le _, Nat.zero_le _⟩ rfl) (fun y2 hf => ?_)
    refine lv_icmp_ne (tgt := 24) hx hb dX7_isSettled_17 rfl (fun hc => ?_) (fun hc => ?_)
    · have hf := ite_f hf hc
      refine lv_iconst (v := 0) hx hb dX7_isSettled_24 rfl ?_
      exact s_zretR E hrt hlocks rfl hf dX7_isSettled_25
    · have hf := ite_t hf hc
      refine lv_iconst (v := 1) hx hb dX7_isSettled_20 rfl ?_
      refine lv_goto (tgt := 25) hx hb dX7_isSettled_21 rfl ?_
      exact s_zretR E hrt hlocks rfl hf dX7_isSettled_25
abbrev rmX7_farFor : Room := { frames := 5, cells := 0, slots := 0, locals := 116 }
set_option maxRecDepth 100000 in
set_option maxHeartbeats 4000000 in
theorem mX7_farFor (l : Launch) (K : Nat) (D : va_G) (G : Nat → ClassId) (ad : Nat → Nat) (r : sR) (v : sV) (n : Nat) (x : Int64 × UInt64) (hsh : sSh r) (hn : 172 ≤ n) (x1 : Int32) (x2 : Int32) : sMI l yX7_farFor (.code yX7_farFor cX7_farFor 4 (some .int) :: wsL_law) rmX7_farFor D G ad r v n x [.ref (ad 157), .int x1, .int x2] (fX7_farFor K x1 x2 v) := by
  intro sz res hf
  refine Met.ofW (cc := cX7_farFor) (maxL := 4) (ret := (some .int)) (by decide) rfl ?_
  intro p e s m args below meth c s₁ B hml hv
  obtain ⟨rfl, rfl, hU, hP, hD⟩ := hv
  have hx := B.exec
  have hb := B.bytes
  have hrt := B.returns
  have hts : ∀ w ∈ wsL_law, w.before _ s = true := fun w hw => atoms_spec (ws := .code yX7_farFor cX7_farFor 4 (some .int) :: wsL_law) B.pre w (List.mem_cons_of_mem _ hw)
  have hlocks := B.notSynchronized
  have E : CallFix p m c cX7_farFor 4 s ([.ref (ad 157), .int x1, .int x2] : List Value).toArray wsL_law RX7 := ⟨hx, hb, hml, findClass_of_methodNamed B.named, hts⟩
  have hB : sB D G (sA ad r n s.heap.size) s.heap ad r v n x s.heap [] := ⟨hP, sD_self hD, va_S.rf⟩
  have hl := lv_entry ([.ref (ad 157), .int x1, .int x2]) (n := 4) (Nat.le_of_ble_eq_true rfl)
  rw [lg_entry_eq]
  generalize (lg_sl ([.ref (ad 157), .int x1, .int x2]) ++ List.replicate (4 - (lg_sl ([.ref (ad 157), .int x1, .int x2])).length) Slot.unset).toArray = ls at hl ⊢
  have hl : lv_has ls 4 [(0, .ref (ad 157)), (1, .int x1), (2, .int x2)] := hl
  have hf := (fX7_farFor.eq_1 ..).symm.trans hf
  refine lv_aload_n hx hb dX7_farFor_0 rfl (lv_at hl 0 rfl) ?_
  refine lv_iload_n hx hb dX7_farFor_1 rfl (lv_at hl 1 rfl) ?_
  refine sc_R hf (rV_R (As := [.int x1]) (rest := []) E hU hB.1 sc9 (slt hsh hn 157 rfl) rfl (mX7_target l D G ad r _ n x hsh hn x1) (cwGV 1 okX7_target wmX7_123 hts rfl rfl ⟨Nat.le_of_ble_eq_true rfl, Nat.le_of_ble_eq_true rfl⟩) rfl hl.1 (Nat.le_of_ble_eq_true rfl) dX7_farFor_2 ⟨Nat.zero_le _, Nat.zero_le _⟩ rfl) (fun y1 hf => ?_)
  refine lv_istore_n (lv' := [(3, .int y1), (0, .ref (ad 157)), (1, .int x1), (2, .int x2)]) hx hb dX7_farFor_5 rfl hl (Nat.le_of_ble_eq_true rfl) rfl (fun ls hl => ?_)
  refine lv_iload_n hx hb dX7_farFor_6 rfl (lv_at hl 0 rfl) ?_
  refine lv_if_ge (tgt := 14) hx hb dX7_farFor_7 rfl (fun hc => ?_) (fun hc => ?_)
  · have hf := ite_t hf hc
    refine lv_aload_n hx hb dX7_farFor_14 rfl (lv_at hl 1 rfl) ?_
    refine lv_iload_n hx hb dX7_farFor_15 rfl (lv_at hl 0 rfl) ?_
    refine lv_iload_n hx hb dX7_farFor_16 rfl (lv_at hl 3 rfl) ?_
    refine sc_I hB (fun q h => Or.inr h) hf (fun q9 h9 => rV_W (As := [.int y1, .int x2]) (rest := []) E hU hB sc9 (slt hsh hn 157 rfl) rfl ((mX7_far l K D G ad r _ n x hsh hn y1 x2) _ _ h9) (cwGV 2 okX7_far wmX7_87 hts rfl rfl ⟨Nat.le_of_ble_eq_true rfl, Nat.le_of_ble_eq_true rfl⟩) rfl hl.1 (Nat.le_of_ble_eq_true rfl) dX7_farFor_17 ⟨Nat.zero_le _, Nat.zero_le _⟩ rfl) (fun y3 v2 hf H locs hB => ?_)
    exact s_iretW E hrt hlocks hB hf dX7_farFor_20
  · have hf := ite_f hf hc
    refine lv_iconst (v := (-1)) hx hb dX7_farFor_10 rfl ?_
    refine lv_goto (tgt := 20) hx hb dX7_farFor_11 rfl ?_
    exact s_iretW E hrt hlocks hB hf dX7_farFor_20
abbrev rmX7_agent : Room := { frames := 6, cells := 0, slots := 0, locals := 139 }
set_option maxRecDepth 100000 in
set_option maxHeartbeats 4000000 in
theorem wX7_agent_28 {K : Nat} {x1 : Int32} {x2 : Int32} {t1 : Int32} {res : (Int32 × sV)} (E : CallFix p m c cX7_agent 4 s args wsL_law RX7) (hlocks : meth.locks = false) (hrt : meth.sig.returnType = (some .int)) (hU : sU D G s) (hsh : sSh r) (hn : 172 ≤ n) {v : sV} {H : Heap} {locs : List Loc} (hB : sB D G (sA ad r n s.heap.size) s.heap ad r v n x H locs) {ls : Array Slot} (hf : bX7_agent_28 K x1 x2 t1 v = some res) (hl : lv_has ls 4 [(0, .ref (ad 157)), (1, .int x1), (2, .int x2)]) :
    W p l e rmX7_agent s m args below meth c H locs 0 0 (MQ below (sQI D G ad r n x s.heap.size res) args s 0 0 (sA ad r n s.heap.size)) (F0 m 28 ls [.int t1, .ref (ad 157)]) := by
  have hx := E.1
  have hb := E.2.1
  have hts := E.2.2.2.2
  have hf := (bX7_agent_28.eq_1 ..).symm.trans hf
  refine s_putI (k := 6) (ty1 := .int) E hU hB sc9 (slt hsh hn 157 rfl) rfl inlX7 (Nat.le_of_ble_eq_true rfl) rfl rfl wkX7_47 rfl rfl rfl rfl dX7_agent_28 hf (fun v3 hf H locs hB => ?_)
  refine lv_aload_n hx hb dX7_agent_31 rfl (lv_at hl 0 rfl) ?_
  refine s_getI (k := 6) E hU hB.1 sc9 (slt hsh hn 157 rfl) rfl inlX7 (Nat.le_of_ble_eq_true rfl) rfl rfl wkX7_47 dX7_agent_32 ?_
  refine lv_if_eq (tgt := 40) hx hb dX7_agent_35 rfl (fun hc => ?_) (fun hc => ?_)
  · have hf := ite_t hf hc
    refine lv_aload_n hx hb dX7_agent_40 rfl (lv_at hl 0 rfl) ?_
    refine lv_iload_n hx hb dX7_agent_41 rfl (lv_at hl 1 rfl) ?_
    refine sc_R hf (rV_R (As := [.int x1]) (rest := []) E hU hB.1 sc9 (slt hsh hn 157 rfl) rfl (mX7_target l D G ad r _ n x hsh hn x1) (cwGV 1 okX7_target wmX7_123 hts rfl rfl ⟨Nat.le_of_ble_eq_true rfl, Nat.le_of_ble_eq_true rfl⟩) rfl hl.1 (Nat.le_of_ble_eq_true rfl) dX7_agent_42 ⟨Nat.zero_le _, Nat.zero_le _⟩ rfl) (fun y4 hf => ?_)
    refine lv_istore_n (lv' := [(3, .int y4), (0, .ref (ad 157)), (1, .int x1), (2, .int x2)]) hx hb dX7_agent_45 rfl hl (Nat.le_of_ble_eq_true rfl) rfl (fun ls hl => ?_)
    refine lv_iload_n hx hb dX7_agent_46 rfl (lv_at hl 3 rfl) ?_
    by_cases hc0 : x2 = 0
    · have hf := ite_t hf hc0
      refine s_tsw (k := 0) (tgt := 104) hx hb dX7_agent_47 hc0 (by decide) (by decide) rfl rfl ?_
      refine lv_aload_n hx hb dX7_agent_104 rfl (lv_at hl 1 rfl) ?_
      refine lv_iload_n hx hb dX7_agent_105 rfl (lv_at hl 2 rfl) ?_
      refine lv_iconst (v := 1) hx hb dX7_agent_106 rfl ?_
      refine sc_R hf (rV_R (As := [.int x1, .int 1]) (rest := []) E hU hB.1 sc9 (slt hsh hn 157 rfl) rfl (mX7_at l D G ad r _ n x hsh hn x1 1) (cwGV 2 okX7_at wmX7_105 hts rfl rfl ⟨Nat.le_of_ble_eq_true rfl, Nat.le_of_ble_eq_true rfl⟩) rfl hl.1 (Nat.le_of_ble_eq_true rfl) dX7_agent_107 ⟨Nat.zero_le _, Nat.zero_le _⟩ rfl) (fun y5 hf => ?_)
      refine sc_R hf (rS_S (As := [.int y5]) (rest := []) E (mX7_columnOf l y5) (cwGS 1 okX7_columnOf wmX7_55 hts rfl rfl ⟨Nat.le_of_ble_eq_true rfl, Nat.le_of_ble_eq_true rfl⟩) rfl hl.1 (Nat.le_of_ble_eq_true rfl) dX7_agent_110 ⟨Nat.zero_le _, Nat.zero_le _⟩ rfl) (fun y6 hf => ?_)
      exact s_iretW E hrt hlocks hB hf dX7_agent_113
    have hf := ite_f hf hc0
    by_cases hc1 : x2 = 1
    · have hf := ite_t hf hc1
      refine s_tsw (k := 1) (tgt := 114) hx hb dX7_agent_47 hc1 (by decide) (by decide) rfl rfl ?_
      refine lv_aload_n hx hb dX7_agent_114 rfl (lv_at hl 1 rfl) ?_
      refine lv_iload_n hx hb dX7_agent_115 rfl (lv_at hl 2 rfl) ?_
      refine lv_iconst (v := 1) hx hb dX7_agent_116 rfl ?_
      refine sc_R hf (rV_R (As := [.int x1, .int 1]) (rest := []) E hU hB.1 sc9 (slt hsh hn 157 rfl) rfl (mX7_at l D G ad r _ n x hsh hn x1 1) (cwGV 2 okX7_at wmX7_105 hts rfl rfl ⟨Nat.le_of_ble_eq_true rfl, Nat.le_of_ble_eq_true rfl⟩) rfl hl.1 (Nat.le_of_ble_eq_true rfl) dX7_agent_117 ⟨Nat.zero_le _, Nat.zero_le _⟩ rfl) (fun y7 hf => ?_)
      refine sc_R hf (rS_S (As := [.int y7]) (rest := []) E (mX7_rowOf l y7) (cwGS 1 okX7_rowOf wmX7_59 hts rfl rfl ⟨Nat.le_of_ble_eq_true rfl, Nat.le_of_ble_eq_true rfl⟩) rfl hl.1 (Nat.le_of_ble_eq_true rfl) dX7_agent_120 ⟨Nat.zero_le _, Nat.zero_le _⟩ rfl) (fun y8 hf => ?_)
      exact s_iretW E hrt hlocks hB hf dX7_agent_123
    have hf := ite_f hf hc1
    by_cases hc2 : x2 = 2
    · have hf := ite_t hf hc2
      refine s_tsw (k := 2) (tgt := 176) hx hb dX7_agent_47 hc2 (by decide) (by decide) rfl rfl ?_
      refine lv_aload_n hx hb dX7_agent_176 rfl (lv_at hl 1 rfl) ?_
      refine lv_iload_n hx hb dX7_agent_177 rfl (lv_at hl 2 rfl) ?_
      refine lv_iload_n hx hb dX7_agent_178 rfl (lv_at hl 3 rfl) ?_
      refine sc_R hf (rV_R (As := [.int x1, .int x2]) (rest := []) E hU hB.1 sc9 (slt hsh hn 157 rfl) rfl (mX7_at l D G ad r _ n x hsh hn x1 x2) (cwGV 2 okX7_at wmX7_105 hts rfl rfl ⟨Nat.le_of_ble_eq_true rfl, Nat.le_of_ble_eq_true rfl⟩) rfl hl.1 (Nat.le_of_ble_eq_true rfl) dX7_agent_179 ⟨Nat.zero_le _, Nat.zero_le _⟩ rfl) (fun y9 hf => ?_)
      exact s_iretW E hrt hlocks hB hf dX7_agent_182
    have hf := ite_f hf hc2
    by_cases hc3 : x2 = 3
    · have hf := ite_t hf hc3
      refine s_tsw (k := 3) (tgt := 176) hx hb dX7_agent_47 hc3 (by decide) (by decide) rfl rfl ?_
      refine lv_aload_n hx hb dX7_agent_176 rfl (lv_at hl 1 rfl) ?_
      refine lv_iload_n hx hb dX7_agent_177 rfl (lv_at hl 2 rfl) ?_
      refine lv_iload_n hx hb dX7_agent_178 rfl (lv_at hl 3 rfl) ?_
      refine sc_R hf (rV_R (As := [.int x1, .int x2]) (rest := []) E hU hB.1 sc9 (slt hsh hn 157 rfl) rfl (mX7_at l D G ad r _ n x hsh hn x1 x2) (cwGV 2 okX7_at wmX7_105 hts rfl rfl ⟨Nat.le_of_ble_eq_true rfl, Nat.le_of_ble_eq_true rfl⟩) rfl hl.1 (Nat.le_of_ble_eq_true rfl) dX7_agent_179 ⟨Nat.zero_le _, Nat.zero_le _⟩ rfl) (fun y10 hf => ?_)
      exact s_iretW E hrt hlocks hB hf dX7_agent_182
    have hf := ite_f hf hc3
    by_cases hc4 : x2 = 4
    · have hf := ite_t hf hc4
      refine s_tsw (k := 4) (tgt := 176) hx hb dX7_agent_47 hc4 (by decide) (by decide) rfl rfl ?_
      refine lv_aload_n hx hb dX7_agent_176 rfl (lv_at hl 1 rfl) ?_
      refine lv_iload_n hx hb dX7_agent_177 rfl (lv_at hl 2 rfl) ?_
      refine lv_iload_n hx hb dX7_agent_178 rfl (lv_at hl 3 rfl) ?_
      refine sc_R hf (rV_R (As := [.int x1, .int x2]) (rest := []) E hU hB.1 sc9 (slt hsh hn 157 rfl) rfl (mX7_at l D G ad r _ n x hsh hn x1 x2) (cwGV 2 okX7_at wmX7_105 hts rfl rfl ⟨Nat.le_of_ble_eq_true rfl, Nat.le_of_ble_eq_true rfl⟩) rfl hl.1 (Nat.le_of_ble_eq_true rfl) dX7_agent_179 ⟨Nat.zero_le _, Nat.zero_le _⟩ rfl) (fun y11 hf => ?_)
      exact s_iretW E hrt hlocks hB hf dX7_agent_182
    have hf := ite_f hf hc4
    by_cases hc5 : x2 = 5
    · have hf := ite_t hf hc5
      refine s_tsw (k := 5) (tgt := 176) hx hb dX7_agent_47 hc5 (by decide) (by decide) rfl rfl ?_
      refine lv_aload_n hx hb dX7_agent_176 rfl (lv_at hl 1 rfl) ?_
      refine lv_iload_n hx hb dX7_agent_177 rfl (lv_at hl 2 rfl) ?_
      refine lv_iload_n hx hb dX7_agent_178 rfl (lv_at hl 3 rfl) ?_
      refine sc_R hf (rV_R (As := [.int x1, .int x2]) (rest := []) E hU hB.1 sc9 (slt hsh hn 157 rfl) rfl (mX7_at l D G ad r _ n x hsh hn x1 x2) (cwGV 2 okX7_at wmX7_105 hts rfl rfl ⟨Nat.le_of_ble_eq_true rfl, Nat.le_of_ble_eq_true rfl⟩) rfl hl.1 (Nat.le_of_ble_eq_true rfl) dX7_agent_179 ⟨Nat.zero_le _, Nat.zero_le _⟩ rfl) (fun y12 hf => ?_)
      exact s_iretW E hrt hlocks hB hf dX7_agent_182
    have hf := ite_f hf hc5
    by_cases hc6 : x2 = 6
    · have hf := ite_t hf hc6
      refine s_tsw (k := 6) (tgt := 176) hx hb dX7_agent_47 hc6 (by decide) (by decide) rfl rfl ?_
      refine lv_aload_n hx hb dX7_agent_176 rfl (lv_at hl 1 rfl) ?_
      refine lv_iload_n hx hb dX7_agent_177 rfl (lv_at hl 2 rfl) ?_
      refine lv_iload_n hx hb dX7_agent_178 rfl (lv_at hl 3 rfl) ?_
      refine sc_R hf (rV_R (As := [.int x1, .int x2]) (rest := []) E hU hB.1 sc9 (slt hsh hn 157 rfl) rfl (mX7_at l D G ad r _ n x hsh hn x1 x2) (cwGV 2 okX7_at wmX7_105 hts rfl rfl ⟨Nat.le_of_ble_eq_true rfl, Nat.le_of_ble_eq_true rfl⟩) rfl hl.1 (Nat.le_of_ble_eq_true rfl) dX7_agent_179 ⟨Nat.zero_le _, Nat.zero_le _⟩ rfl) (fun y13 hf => ?_)
      exact s_iretW E hrt hlocks hB hf dX7_agent_182
    have hf := ite_f hf hc6
    by_cases hc7 : x2 = 7
    · have hf := ite_t hf hc7
      refine s_tsw (k := 7) (tgt := 124) hx hb dX7_agent_47 hc7 (by decide) (by decide) rfl rfl ?_
      refine lv_iload_n hx hb dX7_agent_124 rfl (lv_at hl 0 rfl) ?_
      refine lv_if_ge (tgt := 132) hx hb dX7_agent_125 rfl (fun hc => ?_) (fun hc => ?_)
      · have hf := ite_t hf hc
        refine lv_iload_n hx hb dX7_agent_132 rfl (lv_at hl 0 rfl) ?_
        refine sc_R hf (rS_S (As := [.int y4]) (rest := []) E (mX7_columnOf l y4) (cwGS 1 okX7_columnOf wmX7_55 hts rfl rfl ⟨Nat.le_of_ble_eq_true rfl, Nat.le_of_ble_eq_true rfl⟩) rfl hl.1 (Nat.le_of_ble_eq_true rfl) dX7_agent_133 ⟨Nat.zero_le _, Nat.zero_le _⟩ rfl) (fun y14 hf => ?_)
        exact s_iretW E hrt hlocks hB hf dX7_agent_136
      · have hf := ite_f hf hc
        refine lv_iconst (v := (-1)) hx hb dX7_agent_128 rfl ?_
        refine lv_goto (tgt := 136) hx hb dX7_agent_129 rfl ?_
        exact s_iretW E hrt hlocks hB hf dX7_agent_136
    have hf := ite_f hf hc7
    by_cases hc8 : x2 = 8
    · have hf := ite_t hf hc8
      refine s_tsw (k := 8) (tgt := 137) hx hb dX7_agent_47 hc8 (by decide) (by decide) rfl rfl ?_
      refine lv_iload_n hx hb dX7_agent_137 rfl (lv_at hl 0 rfl) ?_
      refine lv_if_ge (tgt := 145) hx hb dX7_agent_138 rfl (fun hc => ?_) (fun hc => ?_)
      · have hf := ite_t hf hc
        refine lv_iload_n hx hb dX7_agent_145 rfl (lv_at hl 0 rfl) ?_
        refine sc_R hf (rS_S (As := [.int y4]) (rest := []) E (mX7_rowOf l y4) (cwGS 1 okX7_rowOf wmX7_59 hts rfl rfl ⟨Nat.le_of_ble_eq_true rfl, Nat.le_of_ble_eq_true rfl⟩) rfl hl.1 (Nat.le_of_ble_eq_true rfl) dX7_agent_146 ⟨Nat.zero_le _, Nat.zero_le _⟩ rfl) (fun y15 hf => ?_)
        exact s_iretW E hrt hlocks hB hf dX7_agent_149
      · have hf := ite_f hf hc
        refine lv_iconst (v := (-1)) hx hb dX7_agent_141 rfl ?_
        refine lv_goto (tgt := 149) hx hb dX7_agent_142 rfl ?_
        exact s_iretW E hrt hlocks hB hf dX7_agent_149
    have hf := ite_f hf hc8
    by_cases hc9 : x2 = 9
    · have hf := ite_t hf hc9
      refine s_tsw (k := 9) (tgt := 150) hx hb dX7_agent_47 hc9 (by decide) (by decide) rfl rfl ?_
      refine lv_aload_n hx hb dX7_agent_150 rfl (lv_at hl 1 rfl) ?_
      refine lv_iload_n hx hb dX7_agent_151 rfl (lv_at hl 2 rfl) ?_
      refine lv_aload_n hx hb dX7_agent_152 rfl (lv_at hl 1 rfl) ?_
      refine lv_iload_n hx hb dX7_agent_153 rfl (lv_at hl 2 rfl) ?_
      refine lv_iconst (v := 1) hx hb dX7_agent_154 rfl ?_
      refine sc_R hf (rV_R (As := [.int x1, .int 1]) (rest := [.int x1, .ref (ad 157)]) E hU hB.1 sc9 (slt hsh hn 157 rfl) rfl (mX7_at l D G ad r _ n x hsh hn x1 1) (cwGV 2 okX7_at wmX7_105 hts rfl rfl ⟨Nat.le_of_ble_eq_true rfl, Nat.le_of_ble_eq_true rfl⟩) rfl hl.1 (Nat.le_of_ble_eq_true rfl) dX7_agent_155 ⟨Nat.zero_le _, Nat.zero_le _⟩ rfl) (fun y16 hf => ?_)
      refine sc_I hB (fun q h => Or.inr h) hf (fun q9 h9 => rV_W (As := [.int x1, .int y16]) (rest := []) E hU hB sc9 (slt hsh hn 157 rfl) rfl ((mX7_farFor l K D G ad r _ n x hsh hn x1 y16) _ _ h9) (cwGV 2 okX7_farFor wmX7_126 hts rfl rfl ⟨Nat.le_of_ble_eq_true rfl, Nat.le_of_ble_eq_true rfl⟩) rfl hl.1 (Nat.le_of_ble_eq_true rfl) dX7_agent_158 ⟨Nat.zero_le _, Nat.zero_le _⟩ rfl) (fun y18 v17 hf H locs hB => ?_)
      exact s_iretW E hrt hlocks hB hf dX7_agent_161
    have hf := ite_f hf hc9
    by_cases hc10 : x2 = 10
    · have hf := ite_t hf hc10
      refine s_tsw (k := 10) (tgt := 162) hx hb dX7_agent_47 hc10 (by decide) (by decide) rfl rfl ?_
      refine lv_aload_n hx hb dX7_agent_162 rfl (lv_at hl 1 rfl) ?_
      refine lv_iload_n hx hb dX7_agent_163 rfl (lv_at hl 2 rfl) ?_
      refine sc_R hf (rV_R (As := [.int x1]) (rest := []) E hU hB.1 sc9 (slt hsh hn 157 rfl) rfl (mX7_isSettled l D G ad r _ n x hsh hn x1) (cwGV 1 okX7_isSettled wmX7_129 hts rfl rfl ⟨Nat.le_of_ble_eq_true rfl, Nat.le_of_ble_eq_true rfl⟩) rfl hl.1 (Nat.le_of_ble_eq_true rfl) dX7_agent_164 ⟨Nat.zero_le _, Nat.zero_le _⟩ rfl) (fun y19 hf => ?_)
      refine lv_if_eq (tgt := 174) hx hb dX7_agent_167 rfl (fun hc => ?_) (fun hc => ?_)
      · have hf := ite_t hf hc
        refine lv_iconst (v := 0) hx hb dX7_agent_174 rfl ?_
        exact s_iretW E hrt hlocks hB hf dX7_agent_175
      · have hf := ite_f hf hc
        refine lv_iconst (v := 1) hx hb dX7_agent_170 rfl ?_
        refine lv_goto (tgt := 175) hx hb dX7_agent_171 rfl ?_
        exact s_iretW E hrt hlocks hB hf dX7_agent_175
    have hf := ite_f hf hc10
    refine lv_tableOut (tgt := 176) hx hb dX7_agent_47 (by have h0 := ni_ hc0 (z := 0) (by decide); have h1 := ni_ hc1 (z := 1) (by decide); have h2 := ni_ hc2 (z := 2) (by decide); have h3 := ni_ hc3 (z := 3) (by decide); have h4 := ni_ hc4 (z := 4) (by decide); have h5 := ni_ hc5 (z := 5) (by decide); have h6 := ni_ hc6 (z := 6) (by decide); have h7 := ni_ hc7 (z := 7) (by decide); have h8 := ni_ hc8 (z := 8) (by decide); have h9 := ni_ hc9 (z := 9) (by decide); have h10 := ni_ hc10 (z := 10) (by decide); omega) rfl ?_
    refine lv_aload_n hx hb dX7_agent_176 rfl (lv_at hl 1 rfl) ?_
    refine lv_iload_n hx hb dX7_agent_177 rfl (lv_at hl 2 rfl) ?_
    refine lv_iload_n hx hb dX7_agent_178 rfl (lv_at hl 3 rfl) ?_
    refine sc_R hf (rV_R (As := [.int x1, .int x2]) (rest := []) E hU hB.1 sc9 (slt hsh hn 157 rfl) rfl (mX7_at l D G ad r _ n x hsh hn x1 x2) (cwGV 2 okX7_at wmX7_105 hts rfl rfl ⟨Nat.le_of_ble_eq_true rfl, Nat.le_of_ble_eq_true rfl⟩) rfl hl.1 (Nat.le_of_ble_eq_true rfl) dX7_agent_179 ⟨Nat.zero_le _, Nat.zero_le _⟩ rfl) (fun y20 hf => ?_)
    exact s_iretW E hrt hlocks hB hf dX7_agent_182
  · have hf := ite_f hf hc
    refine lv_iconst (v := 0) hx hb dX7_agent_38 rfl ?_
    exact s_iretW E hrt hlocks hB hf dX7_agent_39
set_option maxRecDepth 100000 in
set_option maxHeartbeats 4000000 in
theorem mX7_agent (l : Launch) (K : Nat) (D : va_G) (G : Nat → ClassId) (ad : Nat → Nat) (r : sR) (v : sV) (n : Nat) (x : Int64 × UInt64) (hsh : sSh r) (hn : 172 ≤ n) (x1 : Int32) (x2 : Int32) : sMI l yX7_agent (.code yX7_agent cX7_agent 4 (some .int) :: wsL_law) rmX7_agent D G ad r v n x [.ref (ad 157), .int x1, .int x2] (fX7_agent K x1 x2 v) := by
  intro sz res hf
  refine Met.ofW (cc := cX7_agent) (maxL := 4) (ret := (some .int)) (by decide) rfl ?_
  intro p e s m args below meth c s₁ B hml hv
  obtain ⟨rfl, rfl, hU, hP, hD⟩ := hv
  have hx := B.exec
  have hb := B.bytes
  have hrt := B.returns
  have hts : ∀ w ∈ wsL_law, w.before _ s = true := fun w hw => atoms_spec (ws := .code yX7_agent cX7_agent 4 (some .int) :: wsL_law) B.pre w (List.mem_cons_of_mem _ hw)
  have hlocks := B.notSynchronized
  have E : CallFix p m c cX7_agent 4 s ([.ref (ad 157), .int x1, .int x2] : List Value).toArray wsL_law RX7 := ⟨hx, hb, hml, findClass_of_methodNamed B.named, hts⟩
  have hB : sB D G (sA ad r n s.heap.size) s.heap ad r v n x s.heap [] := ⟨hP, sD_self hD, va_S.rf⟩
  have hl := lv_entry ([.ref (ad 157), .int x1, .int x2]) (n := 4) (Nat.le_of_ble_eq_true rfl)
  rw [lg_entry_eq]
  generalize (lg_sl ([.ref (ad 157), .int x1, .int x2]) ++ List.replicate (4 - (lg_sl ([.ref (ad 157), .int x1, .int x2])).length) Slot.unset).toArray = ls at hl ⊢
  have hl : lv_has ls 4 [(0, .ref (ad 157)), (1, .int x1), (2, .int x2)] := hl
  have hf := (fX7_agent.eq_1 ..).symm.trans hf
  refine lv_aload_n hx hb dX7_agent_0 rfl (lv_at hl 0 rfl) ?_
  refine lv_aload_n hx hb dX7_agent_1 rfl (lv_at hl 0 rfl) ?_
  refine lv_iload_n hx hb dX7_agent_2 rfl (lv_at hl 1 rfl) ?_
  refine sc_R hf (rV_R (As := [.int x1]) (rest := [.ref (ad 157)]) E hU hB.1 sc9 (slt hsh hn 157 rfl) rfl (mX7_isAgent l D G ad r _ n x hsh hn x1) (cwGV 1 okX7_isAgent wmX7_102 hts rfl rfl ⟨Nat.le_of_ble_eq_true rfl, Nat.le_of_ble_eq_true rfl⟩) rfl hl.1 (Nat.le_of_ble_eq_true rfl) dX7_agent_3 ⟨Nat.zero_le _, Nat.zero_le _⟩ rfl) (fun y1 hf => ?_)
  refine lv_if_ne (tgt := 13) hx hb dX7_agent_6 rfl (fun hc => ?_) (fun hc => ?_)
  · have hf := ite_f hf hc
    refine lv_iload_n hx hb dX7_agent_13 rfl (lv_at hl 2 rfl) ?_
    refine lv_iconst (v := 0) hx hb dX7_agent_14 rfl ?_
    refine lv_bipush (v := 10) hx hb dX7_agent_15 rfl ?_
    refine sc_R hf (rS_S (As := [.int x2, .int 0, .int 10]) (rest := [.ref (ad 157)]) E (mX7_isIn l x2 0 10) (cwGS 3 okX7_isIn wmX7_51 hts rfl rfl ⟨Nat.le_of_ble_eq_true rfl, Nat.le_of_ble_eq_true rfl⟩) rfl hl.1 (Nat.le_of_ble_eq_true rfl) dX7_agent_17 ⟨Nat.zero_le _, Nat.zero_le _⟩ rfl) (fun y2 hf => ?_)
    refine lv_if_eq (tgt := 27) hx hb dX7_agent_20 rfl (fun hc => ?_) (fun hc => ?_)
    · have hf := ite_t hf hc
      refine lv_iconst (v := 2) hx hb dX7_agent_27 rfl ?_
      exact wX7_agent_28 E hlocks hrt hU hsh hn hB hf (lv_sub hl [0, 1, 2] rfl)
    · have hf := ite_f hf hc
      refine lv_iconst (v := 0) hx hb dX7_agent_23 rfl ?_
      refine lv_goto (tgt := 28) hx hb dX7_agent_24 rfl ?_
      exact wX7_agent_28 E hlocks hrt hU hsh hn hB hf (lv_sub hl [0, 1, 2] rfl)
  · have hf := ite_t hf hc
    refine lv_iconst (v := 1) hx hb dX7_agent_9 rfl ?_
    refine lv_goto (tgt := 28) hx hb dX7_agent_10 rfl ?_
    exact wX7_agent_28 E hlocks hrt hU hsh hn hB hf (lv_sub hl [0, 1, 2] rfl)
abbrev rmX7_isStuck : Room := { frames := 2, cells := 0, slots := 0, locals := 43 }
set_option maxRecDepth 100000 in
set_option maxHeartbeats 4000000 in
theorem mX7_isStuck (l : Launch) (D : va_G) (G : Nat → ClassId) (ad : Nat → Nat) (r : sR) (v : sV) (n : Nat) (x : Int64 × UInt64) (hsh : sSh r) (hn : 172 ≤ n) (x1 : Int32) : sMR l yX7_isStuck (.code yX7_isStuck cX7_isStuck 2 (some .boolean) :: wsL_law) rmX7_isStuck D G ad r v n x [.ref (ad 157), .int x1] (fX7_isStuck x1 v) := by
  intro res hf
  refine Met.ofW (cc := cX7_isStuck) (maxL := 2) (ret := (some .boolean)) (by decide) rfl ?_
  intro p e s m args below meth c s₁ B hml hv
  obtain ⟨rfl, hU, hP⟩ := hv
  have hx := B.exec
  have hb := B.bytes
  have hrt := B.returns
  have hts : ∀ w ∈ wsL_law, w.before _ s = true := fun w hw => atoms_spec (ws := .code yX7_isStuck cX7_isStuck 2 (some .boolean) :: wsL_law) B.pre w (List.mem_cons_of_mem _ hw)
  have hlocks := B.notSynchronized
  have E : CallFix p m c cX7_isStuck 2 s ([.ref (ad 157), .int x1] : List Value).toArray wsL_law RX7 := ⟨hx, hb, hml, findClass_of_methodNamed B.named, hts⟩
  have hl := lv_entry ([.ref (ad 157), .int x1]) (n := 2) (Nat.le_of_ble_eq_true rfl)
  rw [lg_entry_eq]
  generalize (lg_sl ([.ref (ad 157), .int x1]) ++ List.replicate (2 - (lg_sl ([.ref (ad 157), .int x1])).length) Slot.unset).toArray = ls at hl ⊢
  have hl : lv_has ls 2 [(0, .ref (ad 157)), (1, .int x1)] := hl
  have hf := (fX7_isStuck.eq_1 ..).symm.trans hf
  refine lv_aload_n hx hb dX7_isStuck_0 rfl (lv_at hl 0 rfl) ?_
  refine lv_iload_n hx hb dX7_isStuck_1 rfl (lv_at hl 1 rfl) ?_
  refine sc_R hf (rV_R (As := [.int x1]) (rest := []) E hU hP sc9 (slt hsh hn 157 rfl) rfl (mX7_isAgent l D G ad r _ n x hsh hn x1) (cwGV 1 okX7_isAgent wmX7_102 hts rfl rfl ⟨Nat.le_of_ble_eq_true rfl, Nat.le_of_ble_eq_true rfl⟩) rfl hl.1 (Nat.le_of_ble_eq_true rfl) dX7_isStuck_2 ⟨Nat.zero_le _, Nat.zero_le _⟩ rfl) (fun y1 hf => ?_)
  refine lv_if_eq (tgt := 22) hx hb dX7_isStuck_5 rfl (fun hc => ?_) (fun hc => ?_)
  · have hf := ite_t hf hc
    refine lv_iconst (v := 0) hx hb dX7_isStuck_22 rfl ?_
    exact s_zretR E hrt hlocks rfl hf dX7_isStuck_23
  · have hf := ite_f hf hc
    refine lv_aload_n hx hb dX7_isStuck_8 rfl (lv_at hl 0 rfl) ?_
    refine lv_iload_n hx hb dX7_isStuck_9 rfl (lv_at hl 1 rfl) ?_
    refine lv_iconst (v := 5) hx hb dX7_isStuck_10 rfl ?_
    refine sc_R hf (rV_R (As := [.int x1, .int 5]) (rest := []) E hU hP sc9 (slt hsh hn 157 rfl) rfl (mX7_at l D G ad r _ n x hsh hn x1 5) (cwGV 2 okX7_at wmX7_105 hts rfl rfl ⟨Nat.le_of_ble_eq_true rfl, Nat.le_of_ble_eq_true rfl⟩) rfl hl.1 (Nat.le_of_ble_eq_true rfl) dX7_isStuck_11 ⟨Nat.zero_le _, Nat.zero_le _⟩ rfl) (fun y2 hf => ?_)
    refine lv_iconst (v := 2) hx hb dX7_isStuck_14 rfl ?_
    refine lv_icmp_lt (tgt := 22) hx hb dX7_isStuck_15 rfl (fun hc => ?_) (fun hc => ?_)
    · have hf := ite_t hf hc
      refine lv_iconst (v := 0) hx hb dX7_isStuck_22 rfl ?_
      exact s_zretR E hrt hlocks rfl hf dX7_isStuck_23
    · have hf := ite_f hf hc
      refine lv_iconst (v := 1) hx hb dX7_isStuck_18 rfl ?_
      refine lv_goto (tgt := 23) hx hb dX7_isStuck_19 rfl ?_
      exact s_zretR E hrt hlocks rfl hf dX7_isStuck_23
abbrev rmX7_agents : Room := { frames := 4, cells := 0, slots := 0, locals := 95 }
set_option maxRecDepth 100000 in
set_option maxHeartbeats 4000000 in
theorem wX7_agents_106 {K : Nat} {x1 : Int32} {x2 : Int32} {x3 : Int32} {t0 : Int32} {k22 : Int32 → Int32 → Option (Int32 × sV)} {res : (Int32 × sV)} (E : CallFix p m c cX7_agents 5 s args wsL_law RX7) (hlocks : meth.locks = false) (hrt : meth.sig.returnType = (some .int)) (hU : sU D G s) (hsh : sSh r) (hn : 172 ≤ n) {v : sV} {H : Heap} {locs : List Loc} (hB : sB D G (sA ad r n s.heap.size) s.heap ad r v n x H locs) (ih22 : ∀ (x2 : Int32) (x3 : Int32) (ls : Array Slot), k22 x2 x3 = some res → lv_has ls 5 [(0, .ref (ad 157)), (1, .int x1), (2, .int x2), (3, .int x3)] → W p l e rmX7_agents s m args below meth c H locs 0 0 (MQ below (sQI D G ad r n x s.heap.size res) args s 0 0 (sA ad r n s.heap.size)) (F0 m 22 ls [])) {ls : Array Slot} (hf : bX7_agents_106 K k22 x1 x2 x3 t0 v = some res) (hl : lv_has ls 5 [(0, .ref (ad 157)), (1, .int x1), (2, .int x2), (3, .int x3)]) :
    W p l e rmX7_agents s m args below meth c H locs 0 0 (MQ below (sQI D G ad r n x s.heap.size res) args s 0 0 (sA ad r n s.heap.size)) (F0 m 106 ls [.int t0]) := by
  have hx := E.1
  have hb := E.2.1
  have hts := E.2.2.2.2
  have hf := (bX7_agents_106.eq_1 ..).symm.trans hf
  refine lv_istore (lv' := [(4, .int t0), (0, .ref (ad 157)), (1, .int x1), (2, .int x2), (3, .int x3)]) hx hb dX7_agents_106 hl (Nat.le_of_ble_eq_true rfl) rfl (fun ls hl => ?_)
  refine lv_iload_n hx hb dX7_agents_108 rfl (lv_at hl 3 rfl) ?_
  refine lv_iload hx hb dX7_agents_109 (lv_at hl 0 rfl) ?_
  refine lv_if_eq (tgt := 120) hx hb dX7_agents_111 rfl (fun hc => ?_) (fun hc => ?_)
  · have hf := ite_t hf hc
    refine lv_iconst (v := 0) hx hb dX7_agents_120 rfl ?_
    refine lv_ior hx hb dX7_agents_121 ?_
    refine s_nm hf (fun z4 hf => ?_)
    refine lv_istore_n (lv' := [(2, .int z4), (4, .int t0), (0, .ref (ad 157)), (1, .int x1), (3, .int x3)]) hx hb dX7_agents_122 rfl hl (Nat.le_of_ble_eq_true rfl) rfl (fun ls hl => ?_)
    obtain ⟨z5, ez9, hf⟩ := nm_x hf
    refine lv_iinc (v := z5) (lv' := [(3, .int z5), (2, .int z4), (4, .int t0), (0, .ref (ad 157)), (1, .int x1)]) hx hb dX7_agents_123 hl (k := 4) rfl (by rw [ez9]; rfl) (Nat.le_of_ble_eq_true rfl) rfl (fun ls hl => ?_)
    refine lv_goto (tgt := 22) hx hb dX7_agents_126 rfl ?_
    exact ih22 _ _ _ hf (lv_sub hl [3, 4, 1, 0] rfl)
  · have hf := ite_f hf hc
    refine lv_iconst (v := 1) hx hb dX7_agents_114 rfl ?_
    refine lv_iload_n hx hb dX7_agents_115 rfl (lv_at hl 4 rfl) ?_
    refine lv_ishl hx hb dX7_agents_116 ?_
    refine lv_goto (tgt := 121) hx hb dX7_agents_117 rfl ?_
    refine lv_ior hx hb dX7_agents_121 ?_
    refine s_nm hf (fun z6 hf => ?_)
    refine lv_istore_n (lv' := [(2, .int z6), (4, .int t0), (0, .ref (ad 157)), (1, .int x1), (3, .int x3)]) hx hb dX7_agents_122 rfl hl (Nat.le_of_ble_eq_true rfl) rfl (fun ls hl => ?_)
    obtain ⟨z7, ez9, hf⟩ := nm_x hf
    refine lv_iinc (v := z7) (lv' := [(3, .int z7), (2, .int z6), (4, .int t0), (0, .ref (ad 157)), (1, .int x1)]) hx hb dX7_agents_123 hl (k := 4) rfl (by rw [ez9]; rfl) (Nat.le_of_ble_eq_true rfl) rfl (fun ls hl => ?_)
    refine lv_goto (tgt := 22) hx hb dX7_agents_126 rfl ?_
    exact ih22 _ _ _ hf (lv_sub hl [3, 4, 1, 0] rfl)
set_option maxRecDepth 100000 in
set_option maxHeartbeats 4000000 in
theorem wX7_agents_86 {K : Nat} {x1 : Int32} {x2 : Int32} {x3 : Int32} {k22 : Int32 → Int32 → Option (Int32 × sV)} {res : (Int32 × sV)} (E : CallFix p m c cX7_agents 5 s args wsL_law RX7) (hlocks : meth.locks = false) (hrt : meth.sig.returnType = (some .int)) (hU : sU D G s) (hsh : sSh r) (hn : 172 ≤ n) {v : sV} {H : Heap} {locs : List Loc} (hB : sB D G (sA ad r n s.heap.size) s.heap ad r v n x H locs) (ih22 : ∀ (x2 : Int32) (x3 : Int32) (ls : Array Slot), k22 x2 x3 = some res → lv_has ls 5 [(0, .ref (ad 157)), (1, .int x1), (2, .int x2), (3, .int x3)] → W p l e rmX7_agents s m args below meth c H locs 0 0 (MQ below (sQI D G ad r n x s.heap.size res) args s 0 0 (sA ad r n s.heap.size)) (F0 m 22 ls [])) {ls : Array Slot} (hf : bX7_agents_86 K k22 x1 x2 x3 v = some res) (hl : lv_has ls 5 [(0, .ref (ad 157)), (1, .int x1), (2, .int x2), (3, .int x3)]) :
    W p l e rmX7_agents s m args below meth c H locs 0 0 (MQ below (sQI D G ad r n x s.heap.size res) args s 0 0 (sA ad r n s.heap.size)) (F0 m 86 ls []) := by
  have hx := E.1
  have hb := E.2.1
  have hts := E.2.2.2.2
  have hf := (bX7_agents_86.eq_1 ..).symm.trans hf
  refine lv_iload_n hx hb dX7_agents_86 rfl (lv_at hl 1 rfl) ?_
  refine lv_iconst (v := 4) hx hb dX7_agents_87 rfl ?_
  refine lv_icmp_ne (tgt := 105) hx hb dX7_agents_88 rfl (fun hc => ?_) (fun hc => ?_)
  · have hf := ite_f hf hc
    refine lv_iconst (v := 0) hx hb dX7_agents_105 rfl ?_
    exact wX7_agents_106 E hlocks hrt hU hsh hn hB ih22 hf (lv_sub hl [0, 1, 2, 3] rfl)
  · have hf := ite_t hf hc
    refine lv_aload_n hx hb dX7_agents_91 rfl (lv_at hl 0 rfl) ?_
    refine lv_iload_n hx hb dX7_agents_92 rfl (lv_at hl 3 rfl) ?_
    refine lv_bipush (v := 6) hx hb dX7_agents_93 rfl ?_
    refine sc_R hf (rV_R (As := [.int x3, .int 6]) (rest := []) E hU hB.1 sc9 (slt hsh hn 157 rfl) rfl (mX7_at l D G ad r _ n x hsh hn x3 6) (cwGV 2 okX7_at wmX7_105 hts rfl rfl ⟨Nat.le_of_ble_eq_true rfl, Nat.le_of_ble_eq_true rfl⟩) rfl hl.1 (Nat.le_of_ble_eq_true rfl) dX7_agents_95 ⟨Nat.zero_le _, Nat.zero_le _⟩ rfl) (fun y8 hf => ?_)
    refine lv_if_lt (tgt := 105) hx hb dX7_agents_98 rfl (fun hc => ?_) (fun hc => ?_)
    · have hf := ite_t hf hc
      refine lv_iconst (v := 0) hx hb dX7_agents_105 rfl ?_
      exact wX7_agents_106 E hlocks hrt hU hsh hn hB ih22 hf (lv_sub hl [0, 1, 2, 3] rfl)
    · have hf := ite_f hf hc
      refine lv_iconst (v := 1) hx hb dX7_agents_101 rfl ?_
      refine lv_goto (tgt := 106) hx hb dX7_agents_102 rfl ?_
      exact wX7_agents_106 E hlocks hrt hU hsh hn hB ih22 hf (lv_sub hl [0, 1, 2, 3] rfl)
set_option maxRecDepth 100000 in
set_option maxHeartbeats 4000000 in
theorem wX7_agents_73 {K : Nat} {x1 : Int32} {x2 : Int32} {x3 : Int32} {k22 : Int32 → Int32 → Option (Int32 × sV)} {res : (Int32 × sV)} (E : CallFix p m c cX7_agents 5 s args wsL_law RX7) (hlocks : meth.locks = false) (hrt : meth.sig.returnType = (some .int)) (hU : sU D G s) (hsh : sSh r) (hn : 172 ≤ n) {v : sV} {H : Heap} {locs : List Loc} (hB : sB D G (sA ad r n s.heap.size) s.heap ad r v n x H locs) (ih22 : ∀ (x2 : Int32) (x3 : Int32) (ls : Array Slot), k22 x2 x3 = some res → lv_has ls 5 [(0, .ref (ad 157)), (1, .int x1), (2, .int x2), (3, .int x3)] → W p l e rmX7_agents s m args below meth c H locs 0 0 (MQ below (sQI D G ad r n x s.heap.size res) args s 0 0 (sA ad r n s.heap.size)) (F0 m 22 ls [])) {ls : Array Slot} (hf : bX7_agents_73 K k22 x1 x2 x3 v = some res) (hl : lv_has ls 5 [(0, .ref (ad 157)), (1, .int x1), (2, .int x2), (3, .int x3)]) :
    W p l e rmX7_agents s m args below meth c H locs 0 0 (MQ below (sQI D G ad r n x s.heap.size res) args s 0 0 (sA ad r n s.heap.size)) (F0 m 73 ls []) := by
  have hx := E.1
  have hb := E.2.1
  have hts := E.2.2.2.2
  have hf := (bX7_agents_73.eq_1 ..).symm.trans hf
  refine lv_iload_n hx hb dX7_agents_73 rfl (lv_at hl 1 rfl) ?_
  refine lv_iconst (v := 3) hx hb dX7_agents_74 rfl ?_
  refine lv_icmp_ne (tgt := 86) hx hb dX7_agents_75 rfl (fun hc => ?_) (fun hc => ?_)
  · have hf := ite_f hf hc
    exact wX7_agents_86 E hlocks hrt hU hsh hn hB ih22 hf (lv_sub hl [0, 1, 2, 3] rfl)
  · have hf := ite_t hf hc
    refine lv_aload_n hx hb dX7_agents_78 rfl (lv_at hl 0 rfl) ?_
    refine lv_iload_n hx hb dX7_agents_79 rfl (lv_at hl 3 rfl) ?_
    refine sc_R hf (rV_R (As := [.int x3]) (rest := []) E hU hB.1 sc9 (slt hsh hn 157 rfl) rfl (mX7_members l K D G ad r _ n x hsh hn x3) (cwGV 1 okX7_members wmX7_135 hts rfl rfl ⟨Nat.le_of_ble_eq_true rfl, Nat.le_of_ble_eq_true rfl⟩) rfl hl.1 (Nat.le_of_ble_eq_true rfl) dX7_agents_80 ⟨Nat.zero_le _, Nat.zero_le _⟩ rfl) (fun y9 hf => ?_)
    refine lv_if_gt (tgt := 101) hx hb dX7_agents_83 rfl (fun hc => ?_) (fun hc => ?_)
    · have hf := ite_t hf hc
      refine lv_iconst (v := 1) hx hb dX7_agents_101 rfl ?_
      refine lv_goto (tgt := 106) hx hb dX7_agents_102 rfl ?_
      exact wX7_agents_106 E hlocks hrt hU hsh hn hB ih22 hf (lv_sub hl [0, 1, 2, 3] rfl)
    · have hf := ite_f hf hc
      exact wX7_agents_86 E hlocks hrt hU hsh hn hB ih22 hf (lv_sub hl [0, 1, 2, 3] rfl)
set_option maxRecDepth 100000 in
set_option maxHeartbeats 4000000 in
theorem wX7_agents_60 {K : Nat} {x1 : Int32} {x2 : Int32} {x3 : Int32} {k22 : Int32 → Int32 → Option (Int32 × sV)} {res : (Int32 × sV)} (E : CallFix p m c cX7_agents 5 s args wsL_law RX7) (hlocks : meth.locks = false) (hrt : meth.sig.returnType = (some .int)) (hU : sU D G s) (hsh : sSh r) (hn : 172 ≤ n) {v : sV} {H : Heap} {locs : List Loc} (hB : sB D G (sA ad r n s.heap.size) s.heap ad r v n x H locs) (ih22 : ∀ (x2 : Int32) (x3 : Int32) (ls : Array Slot), k22 x2 x3 = some res → lv_has ls 5 [(0, .ref (ad 157)), (1, .int x1), (2, .int x2), (3, .int x3)] → W p l e rmX7_agents s m args below meth c H locs 0 0 (MQ below (sQI D G ad r n x s.heap.size res) args s 0 0 (sA ad r n s.heap.size)) (F0 m 22 ls [])) {ls : Array Slot} (hf : bX7_agents_60 K k22 x1 x2 x3 v = some res) (hl : lv_has ls 5 [(0, .ref (ad 157)), (1, .int x1), (2, .int x2), (3, .int x3)]) :
    W p l e rmX7_agents s m args below meth c H locs 0 0 (MQ below (sQI D G ad r n x s.heap.size res) args s 0 0 (sA ad r n s.heap.size)) (F0 m 60 ls []) := by
  have hx := E.1
  have hb := E.2.1
  have hts := E.2.2.2.2
  have hf := (bX7_agents_60.eq_1 ..).symm.trans hf
  refine lv_iload_n hx hb dX7_agents_60 rfl (lv_at hl 1 rfl) ?_
  refine lv_iconst (v := 2) hx hb dX7_agents_61 rfl ?_
  refine lv_icmp_ne (tgt := 73) hx hb dX7_agents_62 rfl (fun hc => ?_) (fun hc => ?_)
  · have hf := ite_f hf hc
    exact wX7_agents_73 E hlocks hrt hU hsh hn hB ih22 hf (lv_sub hl [0, 1, 2, 3] rfl)
  · have hf := ite_t hf hc
    refine lv_aload_n hx hb dX7_agents_65 rfl (lv_at hl 0 rfl) ?_
    refine lv_iload_n hx hb dX7_agents_66 rfl (lv_at hl 3 rfl) ?_
    refine sc_R hf (rV_R (As := [.int x3]) (rest := []) E hU hB.1 sc9 (slt hsh hn 157 rfl) rfl (mX7_isStuck l D G ad r _ n x hsh hn x3) (cwGV 1 okX7_isStuck wmX7_132 hts rfl rfl ⟨Nat.le_of_ble_eq_true rfl, Nat.le_of_ble_eq_true rfl⟩) rfl hl.1 (Nat.le_of_ble_eq_true rfl) dX7_agents_67 ⟨Nat.zero_le _, Nat.zero_le _⟩ rfl) (fun y10 hf => ?_)
    refine lv_if_ne (tgt := 101) hx hb dX7_agents_70 rfl (fun hc => ?_) (fun hc => ?_)
    · have hf := ite_f hf hc
      refine lv_iconst (v := 1) hx hb dX7_agents_101 rfl ?_
      refine lv_goto (tgt := 106) hx hb dX7_agents_102 rfl ?_
      exact wX7_agents_106 E hlocks hrt hU hsh hn hB ih22 hf (lv_sub hl [0, 1, 2, 3] rfl)
    · have hf := ite_t hf hc
      exact wX7_agents_73 E hlocks hrt hU hsh hn hB ih22 hf (lv_sub hl [0, 1, 2, 3] rfl)
set_option maxRecDepth 100000 in
set_option maxHeartbeats 4000000 in
theorem lX7_agents_22 {K : Nat} {x1 : Int32} {res : (Int32 × sV)} (E : CallFix p m c cX7_agents 5 s args wsL_law RX7) (hlocks : meth.locks = false) (hrt : meth.sig.returnType = (some .int)) (hU : sU D G s) (hsh : sSh r) (hn : 172 ≤ n) {v : sV} {H : Heap} {locs : List Loc} (hB : sB D G (sA ad r n s.heap.size) s.heap ad r v n x H locs) :
    ∀ (k : Nat) (x2 : Int32) (x3 : Int32) (ls : Array Slot), fx2 (gX7_agents_22 K x1 v) k x2 x3 = some res → lv_has ls 5 [(0, .ref (ad 157)), (1, .int x1), (2, .int x2), (3, .int x3)] → W p l e rmX7_agents s m args below meth c H locs 0 0 (MQ below (sQI D G ad r n x s.heap.size res) args s 0 0 (sA ad r n s.heap.size)) (F0 m 22 ls []) := by
  have hx := E.1
  have hb := E.2.1
  have hts := E.2.2.2.2
  intro k
  induction k with
  | zero =>
    intro x2 x3 ls hf hl
    exact fx2_z hf
  | succ k ih =>
    intro x2 x3 ls hf hl
    have hf := (gX7_agents_22.eq_1 ..).symm.trans hf
    refine lv_iload_n hx hb dX7_agents_22 rfl (lv_at hl 3 rfl) ?_
    refine lv_bipush (v := 16) hx hb dX7_agents_23 rfl ?_
    refine lv_icmp_ge (tgt := 129) hx hb dX7_agents_25 rfl (fun hc => ?_) (fun hc => ?_)
    · have hf := ite_t hf hc
      refine lv_iload_n hx hb dX7_agents_129 rfl (lv_at hl 2 rfl) ?_
      exact s_iretW E hrt hlocks hB hf dX7_agents_130
    · have hf := ite_f hf hc
      refine lv_aload_n hx hb dX7_agents_28 rfl (lv_at hl 0 rfl) ?_
      refine s_getI (k := 6) E hU hB.1 sc9 (slt hsh hn 157 rfl) rfl inlX7 (Nat.le_of_ble_eq_true rfl) rfl rfl wkX7_47 dX7_agents_29 ?_
      refine lv_if_ne (tgt := 129) hx hb dX7_agents_32 rfl (fun hc => ?_) (fun hc => ?_)
      · have hf := ite_f hf hc
        refine lv_iload_n hx hb dX7_agents_129 rfl (lv_at hl 2 rfl) ?_
        exact s_iretW E hrt hlocks hB hf dX7_agents_130
      · have hf := ite_t hf hc
        refine lv_aload_n hx hb dX7_agents_35 rfl (lv_at hl 0 rfl) ?_
        refine lv_iload_n hx hb dX7_agents_36 rfl (lv_at hl 3 rfl) ?_
        refine sc_R hf (rV_R (As := [.int x3]) (rest := []) E hU hB.1 sc9 (slt hsh hn 157 rfl) rfl (mX7_isAgent l D G ad r _ n x hsh hn x3) (cwGV 1 okX7_isAgent wmX7_102 hts rfl rfl ⟨Nat.le_of_ble_eq_true rfl, Nat.le_of_ble_eq_true rfl⟩) rfl hl.1 (Nat.le_of_ble_eq_true rfl) dX7_agents_37 ⟨Nat.zero_le _, Nat.zero_le _⟩ rfl) (fun y3 hf => ?_)
        refine lv_if_eq (tgt := 105) hx hb dX7_agents_40 rfl (fun hc => ?_) (fun hc => ?_)
        · have hf := ite_t hf hc
          refine lv_iconst (v := 0) hx hb dX7_agents_105 rfl ?_
          exact wX7_agents_106 E hlocks hrt hU hsh hn hB ih hf (lv_sub hl [0, 1, 2, 3] rfl)
        · have hf := ite_f hf hc
          refine lv_iload_n hx hb dX7_agents_43 rfl (lv_at hl 1 rfl) ?_
          refine lv_if_eq (tgt := 101) hx hb dX7_agents_44 rfl (fun hc => ?_) (fun hc => ?_)
          · have hf := ite_t hf hc
            refine lv_iconst (v := 1) hx hb dX7_agents_101 rfl ?_
            refine lv_goto (tgt := 106) hx hb dX7_agents_102 rfl ?_
            exact wX7_agents_106 E hlocks hrt hU hsh hn hB ih hf (lv_sub hl [0, 1, 2, 3] rfl)
          · have hf := ite_f hf hc
            refine lv_iload_n hx hb dX7_agents_47 rfl (lv_at hl 1 rfl) ?_
            refine lv_iconst (v := 1) hx hb dX7_agents_48 rfl ?_
            refine lv_icmp_ne (tgt := 60) hx hb dX7_agents_49 rfl (fun hc => ?_) (fun hc => ?_)
            · have hf := ite_f hf hc
              exact wX7_agents_60 E hlocks hrt hU hsh hn hB ih hf (lv_sub hl [0, 1, 2, 3] rfl)
            · have hf := ite_t hf hc
              refine lv_aload_n hx hb dX7_agents_52 rfl (lv_at hl 0 rfl) ?_
              refine lv_iload_n hx hb dX7_agents_53 rfl (lv_at hl 3 rfl) ?_
              refine sc_R hf (rV_R (As := [.int x3]) (rest := []) E hU hB.1 sc9 (slt hsh hn 157 rfl) rfl (mX7_isSettled l D G ad r _ n x hsh hn x3) (cwGV 1 okX7_isSettled wmX7_129 hts rfl rfl ⟨Nat.le_of_ble_eq_true rfl, Nat.le_of_ble_eq_true rfl⟩) rfl hl.1 (Nat.le_of_ble_eq_true rfl) dX7_agents_54 ⟨Nat.zero_le _, Nat.zero_le _⟩ rfl) (fun y11 hf => ?_)
              refine lv_if_ne (tgt := 101) hx hb dX7_agents_57 rfl (fun hc => ?_) (fun hc => ?_)
              · have hf := ite_f hf hc
                refine lv_iconst (v := 1) hx hb dX7_agents_101 rfl ?_
                refine lv_goto (tgt := 106) hx hb dX7_agents_102 rfl ?_
                exact wX7_agents_106 E hlocks hrt hU hsh hn hB ih hf (lv_sub hl [0, 1, 2, 3] rfl)
              · have hf := ite_t hf hc
                exact wX7_agents_60 E hlocks hrt hU hsh hn hB ih hf (lv_sub hl [0, 1, 2, 3] rfl)
set_option maxRecDepth 100000 in
set_option maxHeartbeats 4000000 in
theorem mX7_agents (l : Launch) (K : Nat) (D : va_G) (G : Nat → ClassId) (ad : Nat → Nat) (r : sR) (v : sV) (n : Nat) (x : Int64 × UInt64) (hsh : sSh r) (hn : 172 ≤ n) (x1 : Int32) : sMI l yX7_agents (.code yX7_agents cX7_agents 5 (some .int) :: wsL_law) rmX7_agents D G ad r v n x [.ref (ad 157), .int x1] (fX7_agents K x1 v) := by
  intro sz res hf
  refine Met.ofW (cc := cX7_agents) (maxL := 5) (ret := (some .int)) (by decide) rfl ?_
  intro p e s m args below meth c s₁ B hml hv
  obtain ⟨rfl, rfl, hU, hP, hD⟩ := hv
  have hx := B.exec
  have hb := B.bytes
  have hrt := B.returns
  have hts : ∀ w ∈ wsL_law, w.before _ s = true := fun w hw => atoms_spec (ws := .code yX7_agents cX7_agents 5 (some .int) :: wsL_law) B.pre w (List.mem_cons_of_mem _ hw)
  have hlocks := B.notSynchronized
  have E : CallFix p m c cX7_agents 5 s ([.ref (ad 157), .int x1] : List Value).toArray wsL_law RX7 := ⟨hx, hb, hml, findClass_of_methodNamed B.named, hts⟩
  have hB : sB D G (sA ad r n s.heap.size) s.heap ad r v n x s.heap [] := ⟨hP, sD_self hD, va_S.rf⟩
  have hl := lv_entry ([.ref (ad 157), .int x1]) (n := 5) (Nat.le_of_ble_eq_true rfl)
  rw [lg_entry_eq]
  generalize (lg_sl ([.ref (ad 157), .int x1]) ++ List.replicate (5 - (lg_sl ([.ref (ad 157), .int x1])).length) Slot.unset).toArray = ls at hl ⊢
  have hl : lv_has ls 5 [(0, .ref (ad 157)), (1, .int x1)] := hl
  have hf := (fX7_agents.eq_1 ..).symm.trans hf
  refine lv_aload_n hx hb dX7_agents_0 rfl (lv_at hl 0 rfl) ?_
  refine lv_iload_n hx hb dX7_agents_1 rfl (lv_at hl 1 rfl) ?_
  refine lv_iconst (v := 0) hx hb dX7_agents_2 rfl ?_
  refine lv_iconst (v := 4) hx hb dX7_agents_3 rfl ?_
  refine sc_R hf (rS_S (As := [.int x1, .int 0, .int 4]) (rest := [.ref (ad 157)]) E (mX7_isIn l x1 0 4) (cwGS 3 okX7_isIn wmX7_51 hts rfl rfl ⟨Nat.le_of_ble_eq_true rfl, Nat.le_of_ble_eq_true rfl⟩) rfl hl.1 (Nat.le_of_ble_eq_true rfl) dX7_agents_4 ⟨Nat.zero_le _, Nat.zero_le _⟩ rfl) (fun y1 hf => ?_)
  refine lv_if_eq (tgt := 14) hx hb dX7_agents_7 rfl (fun hc => ?_) (fun hc => ?_)
  · have hf := ite_t hf hc
    refine lv_iconst (v := 1) hx hb dX7_agents_14 rfl ?_
    refine s_putI (k := 6) (ty1 := .int) E hU hB sc9 (slt hsh hn 157 rfl) rfl inlX7 (Nat.le_of_ble_eq_true rfl) rfl rfl wkX7_47 rfl rfl rfl rfl dX7_agents_15 hf (fun v2 hf H locs hB => ?_)
    refine lv_iconst (v := 0) hx hb dX7_agents_18 rfl ?_
    refine lv_istore_n (lv' := [(2, .int 0), (0, .ref (ad 157)), (1, .int x1)]) hx hb dX7_agents_19 rfl hl (Nat.le_of_ble_eq_true rfl) rfl (fun ls hl => ?_)
    refine lv_iconst (v := 0) hx hb dX7_agents_20 rfl ?_
    refine lv_istore_n (lv' := [(3, .int 0), (2, .int 0), (0, .ref (ad 157)), (1, .int x1)]) hx hb dX7_agents_21 rfl hl (Nat.le_of_ble_eq_true rfl) rfl (fun ls hl => ?_)
    exact lX7_agents_22 E hlocks hrt hU hsh hn hB _ _ _ _ hf (lv_sub hl [2, 3, 1, 0] rfl)
  · have hf := ite_f hf hc
    refine lv_iconst (v := 0) hx hb dX7_agents_10 rfl ?_
    refine lv_goto (tgt := 15) hx hb dX7_agents_11 rfl ?_
    refine s_putI (k := 6) (ty1 := .int) E hU hB sc9 (slt hsh hn 157 rfl) rfl inlX7 (Nat.le_of_ble_eq_true rfl) rfl rfl wkX7_47 rfl rfl rfl rfl dX7_agents_15 hf (fun v12 hf H locs hB => ?_)
    refine lv_iconst (v := 0) hx hb dX7_agents_18 rfl ?_
    refine lv_istore_n (lv' := [(2, .int 0), (0, .ref (ad 157)), (1, .int x1)]) hx hb dX7_agents_19 rfl hl (Nat.le_of_ble_eq_true rfl) rfl (fun ls hl => ?_)
    refine lv_iconst (v := 0) hx hb dX7_agents_20 rfl ?_
    refine lv_istore_n (lv' := [(3, .int 0), (2, .int 0), (0, .ref (ad 157)), (1, .int x1)]) hx hb dX7_agents_21 rfl hl (Nat.le_of_ble_eq_true rfl) rfl (fun ls hl => ?_)
    exact lX7_agents_22 E hlocks hrt hU hsh hn hB _ _ _ _ hf (lv_sub hl [2, 3, 1, 0] rfl)
abbrev rmX7_join : Room := { frames := 3, cells := 0, slots := 0, locals := 66 }
set_option maxRecDepth 100000 in
set_option maxHeartbeats 4000000 in
theorem wX7_join_83 {K : Nat} {x1 : Int32} {x2 : Int32} {x3 : Int32} {x4 : Int32} {t1 : Int32} {res : (Int32 × sV)} (E : CallFix p m c cX7_join 5 s args wsL_law RX7) (hlocks : meth.locks = false) (hrt : meth.sig.returnType = (some .int)) (hU : sU D G s) (hsh : sSh r) (hn : 172 ≤ n) {v : sV} {H : Heap} {locs : List Loc} (hB : sB D G (sA ad r n s.heap.size) s.heap ad r v n x H locs) {ls : Array Slot} (hf : bX7_join_83 K x1 x2 x3 x4 t1 v = some res) (hl : lv_has ls 5 [(0, .ref (ad 157)), (1, .int x1), (2, .int x2), (3, .int x3), (4, .int x4)]) :
    W p l e rmX7_join s m args below meth c H locs 0 0 (MQ below (sQI D G ad r n x s.heap.size res) args s 0 0 (sA ad r n s.heap.size)) (F0 m 83 ls [.int t1, .ref (ad 157)]) := by
  have hx := E.1
  have hb := E.2.1
  have hts := E.2.2.2.2
  have hf := (bX7_join_83.eq_1 ..).symm.trans hf
  refine s_putI (k := 6) (ty1 := .int) E hU hB sc9 (slt hsh hn 157 rfl) rfl inlX7 (Nat.le_of_ble_eq_true rfl) rfl rfl wkX7_47 rfl rfl rfl rfl dX7_join_83 hf (fun v2 hf H locs hB => ?_)
  refine lv_aload_n hx hb dX7_join_86 rfl (lv_at hl 0 rfl) ?_
  refine s_getI (k := 6) E hU hB.1 sc9 (slt hsh hn 157 rfl) rfl inlX7 (Nat.le_of_ble_eq_true rfl) rfl rfl wkX7_47 dX7_join_87 ?_
  refine lv_if_eq (tgt := 95) hx hb dX7_join_90 rfl (fun hc => ?_) (fun hc => ?_)
  · have hf := ite_t hf hc
    refine lv_aload_n hx hb dX7_join_95 rfl (lv_at hl 0 rfl) ?_
    refine sc_V hB (fun q h => Or.inr h) hf (fun q9 h9 => rV_W (As := []) (rest := []) E hU hB sc9 (slt hsh hn 157 rfl) rfl ((mX7_keeps l K D G ad r _ n x hsh hn) _ _ h9) (cwGV 0 okX7_keeps wmX7_96 hts rfl rfl ⟨Nat.le_of_ble_eq_true rfl, Nat.le_of_ble_eq_true rfl⟩) rfl hl.1 (Nat.le_of_ble_eq_true rfl) dX7_join_96 ⟨Nat.zero_le _, Nat.zero_le _⟩ rfl) (fun v3 hf H locs hB => ?_)
    refine lv_aload_n hx hb dX7_join_99 rfl (lv_at hl 0 rfl) ?_
    refine lv_iload_n hx hb dX7_join_100 rfl (lv_at hl 1 rfl) ?_
    refine lv_bipush (v := 6) hx hb dX7_join_101 rfl ?_
    refine lv_iload_n hx hb dX7_join_103 rfl (lv_at hl 2 rfl) ?_
    refine sc_V hB (fun q h => Or.inr h) hf (fun q9 h9 => rV_W (As := [.int x1, .int 6, .int x2]) (rest := []) E hU hB sc9 (slt hsh hn 157 rfl) rfl ((mX7_put l D G ad r _ n x hsh hn x1 6 x2) _ _ h9) (cwGV 3 okX7_put wmX7_119 hts rfl rfl ⟨Nat.le_of_ble_eq_true rfl, Nat.le_of_ble_eq_true rfl⟩) rfl hl.1 (Nat.le_of_ble_eq_true rfl) dX7_join_104 ⟨Nat.zero_le _, Nat.zero_le _⟩ rfl) (fun v4 hf H locs hB => ?_)
    refine lv_aload_n hx hb dX7_join_107 rfl (lv_at hl 0 rfl) ?_
    refine lv_iload_n hx hb dX7_join_108 rfl (lv_at hl 1 rfl) ?_
    refine lv_bipush (v := 7) hx hb dX7_join_109 rfl ?_
    refine lv_iload_n hx hb dX7_join_111 rfl (lv_at hl 3 rfl) ?_
    refine sc_V hB (fun q h => Or.inr h) hf (fun q9 h9 => rV_W (As := [.int x1, .int 7, .int x3]) (rest := []) E hU hB sc9 (slt hsh hn 157 rfl) rfl ((mX7_put l D G ad r _ n x hsh hn x1 7 x3) _ _ h9) (cwGV 3 okX7_put wmX7_119 hts rfl rfl ⟨Nat.le_of_ble_eq_true rfl, Nat.le_of_ble_eq_true rfl⟩) rfl hl.1 (Nat.le_of_ble_eq_true rfl) dX7_join_112 ⟨Nat.zero_le _, Nat.zero_le _⟩ rfl) (fun v5 hf H locs hB => ?_)
    refine lv_aload_n hx hb dX7_join_115 rfl (lv_at hl 0 rfl) ?_
    refine lv_iload_n hx hb dX7_join_116 rfl (lv_at hl 1 rfl) ?_
    refine lv_bipush (v := 8) hx hb dX7_join_117 rfl ?_
    refine lv_iload hx hb dX7_join_119 (lv_at hl 4 rfl) ?_
    refine sc_V hB (fun q h => Or.inr h) hf (fun q9 h9 => rV_W (As := [.int x1, .int 8, .int x4]) (rest := []) E hU hB sc9 (slt hsh hn 157 rfl) rfl ((mX7_put l D G ad r _ n x hsh hn x1 8 x4) _ _ h9) (cwGV 3 okX7_put wmX7_119 hts rfl rfl ⟨Nat.le_of_ble_eq_true rfl, Nat.le_of_ble_eq_true rfl⟩) rfl hl.1 (Nat.le_of_ble_eq_true rfl) dX7_join_121 ⟨Nat.zero_le _, Nat.zero_le _⟩ rfl) (fun v6 hf H locs hB => ?_)
    refine lv_aload_n hx hb dX7_join_124 rfl (lv_at hl 0 rfl) ?_
    refine lv_iload_n hx hb dX7_join_125 rfl (lv_at hl 2 rfl) ?_
    refine sc_R hf (rV_R (As := [.int x2]) (rest := []) E hU hB.1 sc9 (slt hsh hn 157 rfl) rfl (mX7_members l K D G ad r _ n x hsh hn x2) (cwGV 1 okX7_members wmX7_135 hts rfl rfl ⟨Nat.le_of_ble_eq_true rfl, Nat.le_of_ble_eq_true rfl⟩) rfl hl.1 (Nat.le_of_ble_eq_true rfl) dX7_join_126 ⟨Nat.zero_le _, Nat.zero_le _⟩ rfl) (fun y7 hf => ?_)
    exact s_iretW E hrt hlocks hB hf dX7_join_129
  · have hf := ite_f hf hc
    refine lv_iconst (v := 0) hx hb dX7_join_93 rfl ?_
    exact s_iretW E hrt hlocks hB hf dX7_join_94
set_option maxRecDepth 100000 in
set_option maxHeartbeats 4000000 in
theorem wX7_join_60 {K : Nat} {x1 : Int32} {x2 : Int32} {x3 : Int32} {x4 : Int32} {res : (Int32 × sV)} (E : CallFix p m c cX7_join 5 s args wsL_law RX7) (hlocks : meth.locks = false) (hrt : meth.sig.returnType = (some .int)) (hU : sU D G s) (hsh : sSh r) (hn : 172 ≤ n) {v : sV} {H : Heap} {locs : List Loc} (hB : sB D G (sA ad r n s.heap.size) s.heap ad r v n x H locs) {ls : Array Slot} (hf : bX7_join_60 K x1 x2 x3 x4 v = some res) (hl : lv_has ls 5 [(0, .ref (ad 157)), (1, .int x1), (2, .int x2), (3, .int x3), (4, .int x4)]) :
    W p l e rmX7_join s m args below meth c H locs 0 0 (MQ below (sQI D G ad r n x s.heap.size res) args s 0 0 (sA ad r n s.heap.size)) (F0 m 60 ls [.ref (ad 157)]) := by
  have hx := E.1
  have hb := E.2.1
  have hts := E.2.2.2.2
  have hf := (bX7_join_60.eq_1 ..).symm.trans hf
  refine lv_aload_n hx hb dX7_join_60 rfl (lv_at hl 0 rfl) ?_
  refine lv_iload_n hx hb dX7_join_61 rfl (lv_at hl 1 rfl) ?_
  refine sc_R hf (rV_R (As := [.int x1]) (rest := [.ref (ad 157)]) E hU hB.1 sc9 (slt hsh hn 157 rfl) rfl (mX7_members l K D G ad r _ n x hsh hn x1) (cwGV 1 okX7_members wmX7_135 hts rfl rfl ⟨Nat.le_of_ble_eq_true rfl, Nat.le_of_ble_eq_true rfl⟩) rfl hl.1 (Nat.le_of_ble_eq_true rfl) dX7_join_62 ⟨Nat.zero_le _, Nat.zero_le _⟩ rfl) (fun y11 hf => ?_)
  refine lv_if_gt (tgt := 78) hx hb dX7_join_65 rfl (fun hc => ?_) (fun hc => ?_)
  · have hf := ite_t hf hc
    refine lv_iconst (v := 3) hx hb dX7_join_78 rfl ?_
    refine lv_goto (tgt := 83) hx hb dX7_join_79 rfl ?_
    exact wX7_join_83 E hlocks hrt hU hsh hn hB hf (lv_sub hl [0, 1, 2, 3, 4] rfl)
  · have hf := ite_f hf hc
    refine lv_aload_n hx hb dX7_join_68 rfl (lv_at hl 0 rfl) ?_
    refine lv_iload_n hx hb dX7_join_69 rfl (lv_at hl 2 rfl) ?_
    refine lv_bipush (v := 6) hx hb dX7_join_70 rfl ?_
    refine sc_R hf (rV_R (As := [.int x2, .int 6]) (rest := [.ref (ad 157)]) E hU hB.1 sc9 (slt hsh hn 157 rfl) rfl (mX7_at l D G ad r _ n x hsh hn x2 6) (cwGV 2 okX7_at wmX7_105 hts rfl rfl ⟨Nat.le_of_ble_eq_true rfl, Nat.le_of_ble_eq_true rfl⟩) rfl hl.1 (Nat.le_of_ble_eq_true rfl) dX7_join_72 ⟨Nat.zero_le _, Nat.zero_le _⟩ rfl) (fun y12 hf => ?_)
    refine lv_if_lt (tgt := 82) hx hb dX7_join_75 rfl (fun hc => ?_) (fun hc => ?_)
    · have hf := ite_t hf hc
      refine lv_iconst (v := 0) hx hb dX7_join_82 rfl ?_
      exact wX7_join_83 E hlocks hrt hU hsh hn hB hf (lv_sub hl [0, 1, 2, 3, 4] rfl)
    · have hf := ite_f hf hc
      refine lv_iconst (v := 3) hx hb dX7_join_78 rfl ?_
      refine lv_goto (tgt := 83) hx hb dX7_join_79 rfl ?_
      exact wX7_join_83 E hlocks hrt hU hsh hn hB hf (lv_sub hl [0, 1, 2, 3, 4] rfl)
set_option maxRecDepth 100000 in
set_option maxHeartbeats 4000000 in
theorem mX7_join (l : Launch) (K : Nat) (D : va_G) (G : Nat → ClassId) (ad : Nat → Nat) (r : sR) (v : sV) (n : Nat) (x : Int64 × UInt64) (hsh : sSh r) (hn : 172 ≤ n) (x1 : Int32) (x2 : Int32) (x3 : Int32) (x4 : Int32) : sMI l yX7_join (.code yX7_join cX7_join 5 (some .int) :: wsL_law) rmX7_join D G ad r v n x [.ref (ad 157), .int x1, .int x2, .int x3, .int x4] (fX7_join K x1 x2 x3 x4 v) := by
  intro sz res hf
  refine Met.ofW (cc := cX7_join) (maxL := 5) (ret := (some .int)) (by decide) rfl ?_
  intro p e s m args below meth c s₁ B hml hv
  obtain ⟨rfl, rfl, hU, hP, hD⟩ := hv
  have hx := B.exec
  have hb := B.bytes
  have hrt := B.returns
  have hts : ∀ w ∈ wsL_law, w.before _ s = true := fun w hw => atoms_spec (ws := .code yX7_join cX7_join 5 (some .int) :: wsL_law) B.pre w (List.mem_cons_of_mem _ hw)
  have hlocks := B.notSynchronized
  have E : CallFix p m c cX7_join 5 s ([.ref (ad 157), .int x1, .int x2, .int x3, .int x4] : List Value).toArray wsL_law RX7 := ⟨hx, hb, hml, findClass_of_methodNamed B.named, hts⟩
  have hB : sB D G (sA ad r n s.heap.size) s.heap ad r v n x s.heap [] := ⟨hP, sD_self hD, va_S.rf⟩
  have hl := lv_entry ([.ref (ad 157), .int x1, .int x2, .int x3, .int x4]) (n := 5) (Nat.le_of_ble_eq_true rfl)
  rw [lg_entry_eq]
  generalize (lg_sl ([.ref (ad 157), .int x1, .int x2, .int x3, .int x4]) ++ List.replicate (5 - (lg_sl ([.ref (ad 157), .int x1, .int x2, .int x3, .int x4])).length) Slot.unset).toArray = ls at hl ⊢
  have hl : lv_has ls 5 [(0, .ref (ad 157)), (1, .int x1), (2, .int x2), (3, .int x3), (4, .int x4)] := hl
  have hf := (fX7_join.eq_1 ..).symm.trans hf
  refine lv_aload_n hx hb dX7_join_0 rfl (lv_at hl 0 rfl) ?_
  refine lv_aload_n hx hb dX7_join_1 rfl (lv_at hl 0 rfl) ?_
  refine lv_iload_n hx hb dX7_join_2 rfl (lv_at hl 1 rfl) ?_
  refine sc_R hf (rV_R (As := [.int x1]) (rest := [.ref (ad 157)]) E hU hB.1 sc9 (slt hsh hn 157 rfl) rfl (mX7_isAgent l D G ad r _ n x hsh hn x1) (cwGV 1 okX7_isAgent wmX7_102 hts rfl rfl ⟨Nat.le_of_ble_eq_true rfl, Nat.le_of_ble_eq_true rfl⟩) rfl hl.1 (Nat.le_of_ble_eq_true rfl) dX7_join_3 ⟨Nat.zero_le _, Nat.zero_le _⟩ rfl) (fun y1 hf => ?_)
  refine lv_if_eq (tgt := 17) hx hb dX7_join_6 rfl (fun hc => ?_) (fun hc => ?_)
  · have hf := ite_t hf hc
    refine lv_iconst (v := 1) hx hb dX7_join_17 rfl ?_
    refine lv_goto (tgt := 83) hx hb dX7_join_18 rfl ?_
    exact wX7_join_83 E hlocks hrt hU hsh hn hB hf (lv_sub hl [0, 1, 2, 3, 4] rfl)
  · have hf := ite_f hf hc
    refine lv_aload_n hx hb dX7_join_9 rfl (lv_at hl 0 rfl) ?_
    refine lv_iload_n hx hb dX7_join_10 rfl (lv_at hl 2 rfl) ?_
    refine sc_R hf (rV_R (As := [.int x2]) (rest := [.ref (ad 157)]) E hU hB.1 sc9 (slt hsh hn 157 rfl) rfl (mX7_isAgent l D G ad r _ n x hsh hn x2) (cwGV 1 okX7_isAgent wmX7_102 hts rfl rfl ⟨Nat.le_of_ble_eq_true rfl, Nat.le_of_ble_eq_true rfl⟩) rfl hl.1 (Nat.le_of_ble_eq_true rfl) dX7_join_11 ⟨Nat.zero_le _, Nat.zero_le _⟩ rfl) (fun y8 hf => ?_)
    refine lv_if_ne (tgt := 21) hx hb dX7_join_14 rfl (fun hc => ?_) (fun hc => ?_)
    · have hf := ite_f hf hc
      refine lv_iload_n hx hb dX7_join_21 rfl (lv_at hl 1 rfl) ?_
      refine lv_iload_n hx hb dX7_join_22 rfl (lv_at hl 2 rfl) ?_
      refine lv_icmp_eq (tgt := 56) hx hb dX7_join_23 rfl (fun hc => ?_) (fun hc => ?_)
      · have hf := ite_t hf hc
        refine lv_iconst (v := 2) hx hb dX7_join_56 rfl ?_
        refine lv_goto (tgt := 83) hx hb dX7_join_57 rfl ?_
        exact wX7_join_83 E hlocks hrt hU hsh hn hB hf (lv_sub hl [0, 1, 2, 3, 4] rfl)
      · have hf := ite_f hf hc
        refine lv_iload_n hx hb dX7_join_26 rfl (lv_at hl 3 rfl) ?_
        refine lv_bipush (v := (-3)) hx hb dX7_join_27 rfl ?_
        refine lv_iconst (v := 3) hx hb dX7_join_29 rfl ?_
        refine sc_R hf (rS_S (As := [.int x3, .int (-3), .int 3]) (rest := [.ref (ad 157)]) E (mX7_isIn l x3 (-3) 3) (cwGS 3 okX7_isIn wmX7_51 hts rfl rfl ⟨Nat.le_of_ble_eq_true rfl, Nat.le_of_ble_eq_true rfl⟩) rfl hl.1 (Nat.le_of_ble_eq_true rfl) dX7_join_30 ⟨Nat.zero_le _, Nat.zero_le _⟩ rfl) (fun y9 hf => ?_)
        refine lv_if_eq (tgt := 56) hx hb dX7_join_33 rfl (fun hc => ?_) (fun hc => ?_)
        · have hf := ite_t hf hc
          refine lv_iconst (v := 2) hx hb dX7_join_56 rfl ?_
          refine lv_goto (tgt := 83) hx hb dX7_join_57 rfl ?_
          exact wX7_join_83 E hlocks hrt hU hsh hn hB hf (lv_sub hl [0, 1, 2, 3, 4] rfl)
        · have hf := ite_f hf hc
          refine lv_iload hx hb dX7_join_36 (lv_at hl 4 rfl) ?_
          refine lv_bipush (v := (-3)) hx hb dX7_join_38 rfl ?_
          refine lv_iconst (v := 3) hx hb dX7_join_40 rfl ?_
          refine sc_R hf (rS_S (As := [.int x4, .int (-3), .int 3]) (rest := [.ref (ad 157)]) E (mX7_isIn l x4 (-3) 3) (cwGS 3 okX7_isIn wmX7_51 hts rfl rfl ⟨Nat.le_of_ble_eq_true rfl, Nat.le_of_ble_eq_true rfl⟩) rfl hl.1 (Nat.le_of_ble_eq_true rfl) dX7_join_41 ⟨Nat.zero_le _, Nat.zero_le _⟩ rfl) (fun y10 hf => ?_)
          refine lv_if_eq (tgt := 56) hx hb dX7_join_44 rfl (fun hc => ?_) (fun hc => ?_)
          · have hf := ite_t hf hc
            refine lv_iconst (v := 2) hx hb dX7_join_56 rfl ?_
            refine lv_goto (tgt := 83) hx hb dX7_join_57 rfl ?_
            exact wX7_join_83 E hlocks hrt hU hsh hn hB hf (lv_sub hl [0, 1, 2, 3, 4] rfl)
          · have hf := ite_f hf hc
            refine lv_iload_n hx hb dX7_join_47 rfl (lv_at hl 3 rfl) ?_
            refine lv_if_ne (tgt := 60) hx hb dX7_join_48 rfl (fun hc => ?_) (fun hc => ?_)
            · have hf := ite_f hf hc
              exact wX7_join_60 E hlocks hrt hU hsh hn hB hf (lv_sub hl [0, 1, 2, 3, 4] rfl)
            · have hf := ite_t hf hc
              refine lv_iload hx hb dX7_join_51 (lv_at hl 4 rfl) ?_
              refine lv_if_ne (tgt := 60) hx hb dX7_join_53 rfl (fun hc => ?_) (fun hc => ?_)
              · have hf := ite_f hf hc
                exact wX7_join_60 E hlocks hrt hU hsh hn hB hf (lv_sub hl [0, 1, 2, 3, 4] rfl)
              · have hf := ite_t hf hc
                refine lv_iconst (v := 2) hx hb dX7_join_56 rfl ?_
                refine lv_goto (tgt := 83) hx hb dX7_join_57 rfl ?_
                exact wX7_join_83 E hlocks hrt hU hsh hn hB hf (lv_sub hl [0, 1, 2, 3, 4] rfl)
    · have hf := ite_t hf hc
      refine lv_iconst (v := 1) hx hb dX7_join_17 rfl ?_
      refine lv_goto (tgt := 83) hx hb dX7_join_18 rfl ?_
      exact wX7_join_83 E hlocks hrt hU hsh hn hB hf (lv_sub hl [0, 1, 2, 3, 4] rfl)
abbrev rmX7_leave : Room := { frames := 2, cells := 0, slots := 0, locals := 43 }
set_option maxRecDepth 100000 in
set_option maxHeartbeats 4000000 in
theorem wX7_leave_28 {K : Nat} {x1 : Int32} {t1 : Int32} {res : (Int32 × sV)} (E : CallFix p m c cX7_leave 3 s args wsL_law RX7) (hlocks : meth.locks = false) (hrt : meth.sig.returnType = (some .int)) (hU : sU D G s) (hsh : sSh r) (hn : 172 ≤ n) {v : sV} {H : Heap} {locs : List Loc} (hB : sB D G (sA ad r n s.heap.size) s.heap ad r v n x H locs) {ls : Array Slot} (hf : bX7_leave_28 K x1 t1 v = some res) (hl : lv_has ls 3 [(0, .ref (ad 157)), (1, .int x1)]) :
    W p l e rmX7_leave s m args below meth c H locs 0 0 (MQ below (sQI D G ad r n x s.heap.size res) args s 0 0 (sA ad r n s.heap.size)) (F0 m 28 ls [.int t1, .ref (ad 157)]) := by
  have hx := E.1
  have hb := E.2.1
  have hts := E.2.2.2.2
  have hf := (bX7_leave_28.eq_1 ..).symm.trans hf
  refine s_putI (k := 6) (ty1 := .int) E hU hB sc9 (slt hsh hn 157 rfl) rfl inlX7 (Nat.le_of_ble_eq_true rfl) rfl rfl wkX7_47 rfl rfl rfl rfl dX7_leave_28 hf (fun v3 hf H locs hB => ?_)
  refine lv_aload_n hx hb dX7_leave_31 rfl (lv_at hl 0 rfl) ?_
  refine s_getI (k := 6) E hU hB.1 sc9 (slt hsh hn 157 rfl) rfl inlX7 (Nat.le_of_ble_eq_true rfl) rfl rfl wkX7_47 dX7_leave_32 ?_
  refine lv_if_eq (tgt := 40) hx hb dX7_leave_35 rfl (fun hc => ?_) (fun hc => ?_)
  · have hf := ite_t hf hc
    refine lv_aload_n hx hb dX7_leave_40 rfl (lv_at hl 0 rfl) ?_
    refine sc_V hB (fun q h => Or.inr h) hf (fun q9 h9 => rV_W (As := []) (rest := []) E hU hB sc9 (slt hsh hn 157 rfl) rfl ((mX7_keeps l K D G ad r _ n x hsh hn) _ _ h9) (cwGV 0 okX7_keeps wmX7_96 hts rfl rfl ⟨Nat.le_of_ble_eq_true rfl, Nat.le_of_ble_eq_true rfl⟩) rfl hl.1 (Nat.le_of_ble_eq_true rfl) dX7_leave_41 ⟨Nat.zero_le _, Nat.zero_le _⟩ rfl) (fun v4 hf H locs hB => ?_)
    refine lv_aload_n hx hb dX7_leave_44 rfl (lv_at hl 0 rfl) ?_
    refine lv_iload_n hx hb dX7_leave_45 rfl (lv_at hl 1 rfl) ?_
    refine lv_bipush (v := 6) hx hb dX7_leave_46 rfl ?_
    refine sc_R hf (rV_R (As := [.int x1, .int 6]) (rest := []) E hU hB.1 sc9 (slt hsh hn 157 rfl) rfl (mX7_at l D G ad r _ n x hsh hn x1 6) (cwGV 2 okX7_at wmX7_105 hts rfl rfl ⟨Nat.le_of_ble_eq_true rfl, Nat.le_of_ble_eq_true rfl⟩) rfl hl.1 (Nat.le_of_ble_eq_true rfl) dX7_leave_48 ⟨Nat.zero_le _, Nat.zero_le _⟩ rfl) (fun y5 hf => ?_)
    refine lv_istore_n (lv' := [(2, .int y5), (0, .ref (ad 157)), (1, .int x1)]) hx hb dX7_leave_51 rfl hl (Nat.le_of_ble_eq_true rfl) rfl (fun ls hl => ?_)
    refine lv_aload_n hx hb dX7_leave_52 rfl (lv_at hl 1 rfl) ?_
    refine lv_iload_n hx hb dX7_leave_53 rfl (lv_at hl 2 rfl) ?_
    refine lv_bipush (v := 6) hx hb dX7_leave_54 rfl ?_
    refine lv_iconst (v := (-1)) hx hb dX7_leave_56 rfl ?_
    refine sc_V hB (fun q h => Or.inr h) hf (fun q9 h9 => rV_W (As := [.int x1, .int 6, .int (-1)]) (rest := []) E hU hB sc9 (slt hsh hn 157 rfl) rfl ((mX7_put l D G ad r _ n x hsh hn x1 6 (-1)) _ _ h9) (cwGV 3 okX7_put wmX7_119 hts rfl rfl ⟨Nat.le_of_ble_eq_true rfl, Nat.le_of_ble_eq_true rfl⟩) rfl hl.1 (Nat.le_of_ble_eq_true rfl) dX7_leave_57 ⟨Nat.zero_le _, Nat.zero_le _⟩ rfl) (fun v6 hf H locs hB => ?_)
    refine lv_iload_n hx hb dX7_leave_60 rfl (lv_at hl 0 rfl) ?_
    exact s_iretW E hrt hlocks hB hf dX7_leave_61
  · have hf := ite_f hf hc
    refine lv_iconst (v := 0) hx hb dX7_leave_38 rfl ?_
    exact s_iretW E hrt hlocks hB hf dX7_leave_39
set_option maxRecDepth 100000 in
set_option maxHeartbeats 4000000 in
theorem mX7_leave (l : Launch) (K : Nat) (D : va_G) (G : Nat → ClassId) (ad : Nat → Nat) (r : sR) (v : sV) (n : Nat) (x : Int64 × UInt64) (hsh : sSh r) (hn : 172 ≤ n) (x1 : Int32) : sMI l yX7_leave (.code yX7_leave cX7_leave 3 (some .int) :: wsL_law) rmX7_leave D G ad r v n x [.ref (ad 157), .int x1] (fX7_leave K x1 v) := by
  intro sz res hf
  refine Met.ofW (cc := cX7_leave) (maxL := 3) (ret := (some .int)) (by decide) rfl ?_
  intro p e s m args below meth c s₁ B hml hv
  obtain ⟨rfl, rfl, hU, hP, hD⟩ := hv
  have hx := B.exec
  have hb := B.bytes
  have hrt := B.returns
  have hts : ∀ w ∈ wsL_law, w.before _ s = true := fun w hw => atoms_spec (ws := .code yX7_leave cX7_leave 3 (some .int) :: wsL_law) B.pre w (List.mem_cons_of_mem _ hw)
  have hlocks := B.notSynchronized
  have E : CallFix p m c cX7_leave 3 s ([.ref (ad 157), .int x1] : List Value).toArray wsL_law RX7 := ⟨hx, hb, hml, findClass_of_methodNamed B.named, hts⟩
  have hB : sB D G (sA ad r n s.heap.size) s.heap ad r v n x s.heap [] := ⟨hP, sD_self hD, va_S.rf⟩
  have hl := lv_entry ([.ref (ad 157), .int x1]) (n := 3) (Nat.le_of_ble_eq_true rfl)
  rw [lg_entry_eq]
  generalize (lg_sl ([.ref (ad 157), .int x1]) ++ List.replicate (3 - (lg_sl ([.ref (ad 157), .int x1])).length) Slot.unset).toArray = ls at hl ⊢
  have hl : lv_has ls 3 [(0, .ref (ad 157)), (1, .int x1)] := hl
  have hf := (fX7_leave.eq_1 ..).symm.trans hf
  refine lv_aload_n hx hb dX7_leave_0 rfl (lv_at hl 0 rfl) ?_
  refine lv_aload_n hx hb dX7_leave_1 rfl (lv_at hl 0 rfl) ?_
  refine lv_iload_n hx hb dX7_leave_2 rfl (lv_at hl 1 rfl) ?_
  refine sc_R hf (rV_R (As := [.int x1]) (rest := [.ref (ad 157)]) E hU hB.1 sc9 (slt hsh hn 157 rfl) rfl (mX7_isAgent l D G ad r _ n x hsh hn x1) (cwGV 1 okX7_isAgent wmX7_102 hts rfl rfl ⟨Nat.le_of_ble_eq_true rfl, Nat.le_of_ble_eq_true rfl⟩) rfl hl.1 (Nat.le_of_ble_eq_true rfl) dX7_leave_3 ⟨Nat.zero_le _, Nat.zero_le _⟩ rfl) (fun y1 hf => ?_)
  refine lv_if_ne (tgt := 13) hx hb dX7_leave_6 rfl (fun hc => ?_) (fun hc => ?_)
  · have hf := ite_f hf hc
    refine lv_aload_n hx hb dX7_leave_13 rfl (lv_at hl 0 rfl) ?_
    refine lv_iload_n hx hb dX7_leave_14 rfl (lv_at hl 1 rfl) ?_
    refine lv_bipush (v := 6) hx hb dX7_leave_15 rfl ?_
    refine sc_R hf (rV_R (As := [.int x1, .int 6]) (rest := [.ref (ad 157)]) E hU hB.1 sc9 (slt hsh hn 157 rfl) rfl (mX7_at l D G ad r _ n x hsh hn x1 6) (cwGV 2 okX7_at wmX7_105 hts rfl rfl ⟨Nat.le_of_ble_eq_true rfl, Nat.le_of_ble_eq_true rfl⟩) rfl hl.1 (Nat.le_of_ble_eq_true rfl) dX7_leave_17 ⟨Nat.zero_le _, Nat.zero_le _⟩ rfl) (fun y2 hf => ?_)
    refine lv_if_ge (tgt := 27) hx hb dX7_leave_20 rfl (fun hc => ?_) (fun hc => ?_)
    · have hf := ite_t hf hc
      refine lv_iconst (v := 0) hx hb dX7_leave_27 rfl ?_
      exact wX7_leave_28 E hlocks hrt hU hsh hn hB hf (lv_sub hl [0, 1] rfl)
    · have hf := ite_f hf hc
      refine lv_iconst (v := 2) hx hb dX7_leave_23 rfl ?_
      refine lv_goto (tgt := 28) hx hb dX7_leave_24 rfl ?_
      exact wX7_leave_28 E hlocks hrt hU hsh hn hB hf (lv_sub hl [0, 1] rfl)
  · have hf := ite_t hf hc
    refine lv_iconst (v := 1) hx hb dX7_leave_9 rfl ?_
    refine lv_goto (tgt := 28) hx hb dX7_leave_10 rfl ?_
    exact wX7_leave_28 E hlocks hrt hU hsh hn hB hf (lv_sub hl [0, 1] rfl)
end
