section
variable {p : Program} {l : Launch} {e : Env} {s : State} {m : MethodId} {args : Array Value} {below : List Frame} {meth : Method} {c : Code}
variable {D : va_G} {G : Nat → ClassId} {ad : Nat → Nat} {r : sR} {n : Nat} {x : Int64 × UInt64}
abbrev rmX7_isIn : Room := { frames := 0, cells := 0, slots := 0, locals := 0 }
set_option maxRecDepth 100000 in
set_option maxHeartbeats 4000000 in
theorem mX7_isIn (l : Launch) (x0 : Int32) (x1 : Int32) (x2 : Int32) : sMS l yX7_isIn (.code yX7_isIn cX7_isIn 3 (some .boolean) :: wsL_law) rmX7_isIn [.int x0, .int x1, .int x2] (fX7_isIn x0 x1 x2) := by
  intro res hf
  refine Met.ofW (cc := cX7_isIn) (maxL := 3) (ret := (some .boolean)) (by decide) rfl ?_
  intro p e s m args below meth c s₁ B hml hv
  obtain ⟨rfl, -⟩ := hv
  have hx := B.exec
  have hb := B.bytes
  have hrt := B.returns
  have hts : ∀ w ∈ wsL_law, w.before _ s = true := fun w hw => atoms_spec (ws := .code yX7_isIn cX7_isIn 3 (some .boolean) :: wsL_law) B.pre w (List.mem_cons_of_mem _ hw)
  have hlocks := B.notSynchronized
  have E : CallFix p m c cX7_isIn 3 s ([.int x0, .int x1, .int x2] : List Value).toArray wsL_law RX7 := ⟨hx, hb, hml, findClass_of_methodNamed B.named, hts⟩
  have hl := lv_entry ([.int x0, .int x1, .int x2]) (n := 3) (Nat.le_of_ble_eq_true rfl)
  rw [lg_entry_eq]
  generalize (lg_sl ([.int x0, .int x1, .int x2]) ++ List.replicate (3 - (lg_sl ([.int x0, .int x1, .int x2])).length) Slot.unset).toArray = ls at hl ⊢
  have hl : lv_has ls 3 [(0, .int x0), (1, .int x1), (2, .int x2)] := hl
  have hf := (fX7_isIn.eq_1 ..).symm.trans hf
  refine lv_iload_n hx hb dX7_isIn_0 rfl (lv_at hl 0 rfl) ?_
  refine lv_iload_n hx hb dX7_isIn_1 rfl (lv_at hl 1 rfl) ?_
  refine lv_icmp_lt (tgt := 14) hx hb dX7_isIn_2 rfl (fun hc => ?_) (fun hc => ?_)
  · have hf := ite_t hf hc
    refine lv_iconst (v := 0) hx hb dX7_isIn_14 rfl ?_
    exact s_zretR E hrt hlocks rfl hf dX7_isIn_15
  · have hf := ite_f hf hc
    refine lv_iload_n hx hb dX7_isIn_5 rfl (lv_at hl 0 rfl) ?_
    refine lv_iload_n hx hb dX7_isIn_6 rfl (lv_at hl 2 rfl) ?_
    refine lv_icmp_gt (tgt := 14) hx hb dX7_isIn_7 rfl (fun hc => ?_) (fun hc => ?_)
    · have hf := ite_t hf hc
      refine lv_iconst (v := 0) hx hb dX7_isIn_14 rfl ?_
      exact s_zretR E hrt hlocks rfl hf dX7_isIn_15
    · have hf := ite_f hf hc
      refine lv_iconst (v := 1) hx hb dX7_isIn_10 rfl ?_
      refine lv_goto (tgt := 15) hx hb dX7_isIn_11 rfl ?_
      exact s_zretR E hrt hlocks rfl hf dX7_isIn_15
abbrev rmX7_isCell : Room := { frames := 1, cells := 0, slots := 0, locals := 22 }
set_option maxRecDepth 100000 in
set_option maxHeartbeats 4000000 in
theorem mX7_isCell (l : Launch) (x0 : Int32) (x1 : Int32) : sMS l yX7_isCell (.code yX7_isCell cX7_isCell 2 (some .boolean) :: wsL_law) rmX7_isCell [.int x0, .int x1] (fX7_isCell x0 x1) := by
  intro res hf
  refine Met.ofW (cc := cX7_isCell) (maxL := 2) (ret := (some .boolean)) (by decide) rfl ?_
  intro p e s m args below meth c s₁ B hml hv
  obtain ⟨rfl, -⟩ := hv
  have hx := B.exec
  have hb := B.bytes
  have hrt := B.returns
  have hts : ∀ w ∈ wsL_law, w.before _ s = true := fun w hw => atoms_spec (ws := .code yX7_isCell cX7_isCell 2 (some .boolean) :: wsL_law) B.pre w (List.mem_cons_of_mem _ hw)
  have hlocks := B.notSynchronized
  have E : CallFix p m c cX7_isCell 2 s ([.int x0, .int x1] : List Value).toArray wsL_law RX7 := ⟨hx, hb, hml, findClass_of_methodNamed B.named, hts⟩
  have hl := lv_entry ([.int x0, .int x1]) (n := 2) (Nat.le_of_ble_eq_true rfl)
  rw [lg_entry_eq]
  generalize (lg_sl ([.int x0, .int x1]) ++ List.replicate (2 - (lg_sl ([.int x0, .int x1])).length) Slot.unset).toArray = ls at hl ⊢
  have hl : lv_has ls 2 [(0, .int x0), (1, .int x1)] := hl
  have hf := (fX7_isCell.eq_1 ..).symm.trans hf
  refine lv_iload_n hx hb dX7_isCell_0 rfl (lv_at hl 0 rfl) ?_
  refine lv_iconst (v := 0) hx hb dX7_isCell_1 rfl ?_
  refine lv_bipush (v := 13) hx hb dX7_isCell_2 rfl ?_
  refine sc_R hf (rS_S (As := [.int x0, .int 0, .int 13]) (rest := []) E (mX7_isIn l x0 0 13) (cwGS 3 okX7_isIn wmX7_51 hts rfl rfl ⟨Nat.le_of_ble_eq_true rfl, Nat.le_of_ble_eq_true rfl⟩) rfl hl.1 (Nat.le_of_ble_eq_true rfl) dX7_isCell_4 ⟨Nat.zero_le _, Nat.zero_le _⟩ rfl) (fun y1 hf => ?_)
  refine lv_if_eq (tgt := 24) hx hb dX7_isCell_7 rfl (fun hc => ?_) (fun hc => ?_)
  · have hf := ite_t hf hc
    refine lv_iconst (v := 0) hx hb dX7_isCell_24 rfl ?_
    exact s_zretR E hrt hlocks rfl hf dX7_isCell_25
  · have hf := ite_f hf hc
    refine lv_iload_n hx hb dX7_isCell_10 rfl (lv_at hl 1 rfl) ?_
    refine lv_iconst (v := 0) hx hb dX7_isCell_11 rfl ?_
    refine lv_bipush (v := 9) hx hb dX7_isCell_12 rfl ?_
    refine sc_R hf (rS_S (As := [.int x1, .int 0, .int 9]) (rest := []) E (mX7_isIn l x1 0 9) (cwGS 3 okX7_isIn wmX7_51 hts rfl rfl ⟨Nat.le_of_ble_eq_true rfl, Nat.le_of_ble_eq_true rfl⟩) rfl hl.1 (Nat.le_of_ble_eq_true rfl) dX7_isCell_14 ⟨Nat.zero_le _, Nat.zero_le _⟩ rfl) (fun y2 hf => ?_)
    refine lv_if_eq (tgt := 24) hx hb dX7_isCell_17 rfl (fun hc => ?_) (fun hc => ?_)
    · have hf := ite_t hf hc
      refine lv_iconst (v := 0) hx hb dX7_isCell_24 rfl ?_
      exact s_zretR E hrt hlocks rfl hf dX7_isCell_25
    · have hf := ite_f hf hc
      refine lv_iconst (v := 1) hx hb dX7_isCell_20 rfl ?_
      refine lv_goto (tgt := 25) hx hb dX7_isCell_21 rfl ?_
      exact s_zretR E hrt hlocks rfl hf dX7_isCell_25
abbrev rmX7_cellAt : Room := { frames := 0, cells := 0, slots := 0, locals := 0 }
set_option maxRecDepth 100000 in
set_option maxHeartbeats 4000000 in
theorem mX7_cellAt (l : Launch) (x0 : Int32) (x1 : Int32) : sMS l yX7_cellAt (.code yX7_cellAt cX7_cellAt 2 (some .int) :: wsL_law) rmX7_cellAt [.int x0, .int x1] (fX7_cellAt x0 x1) := by
  intro res hf
  refine Met.ofW (cc := cX7_cellAt) (maxL := 2) (ret := (some .int)) (by decide) rfl ?_
  intro p e s m args below meth c s₁ B hml hv
  obtain ⟨rfl, -⟩ := hv
  have hx := B.exec
  have hb := B.bytes
  have hrt := B.returns
  have hts : ∀ w ∈ wsL_law, w.before _ s = true := fun w hw => atoms_spec (ws := .code yX7_cellAt cX7_cellAt 2 (some .int) :: wsL_law) B.pre w (List.mem_cons_of_mem _ hw)
  have hlocks := B.notSynchronized
  have E : CallFix p m c cX7_cellAt 2 s ([.int x0, .int x1] : List Value).toArray wsL_law RX7 := ⟨hx, hb, hml, findClass_of_methodNamed B.named, hts⟩
  have hl := lv_entry ([.int x0, .int x1]) (n := 2) (Nat.le_of_ble_eq_true rfl)
  rw [lg_entry_eq]
  generalize (lg_sl ([.int x0, .int x1]) ++ List.replicate (2 - (lg_sl ([.int x0, .int x1])).length) Slot.unset).toArray = ls at hl ⊢
  have hl : lv_has ls 2 [(0, .int x0), (1, .int x1)] := hl
  have hf := (fX7_cellAt.eq_1 ..).symm.trans hf
  refine lv_bipush (v := 14) hx hb dX7_cellAt_0 rfl ?_
  refine lv_iload_n hx hb dX7_cellAt_2 rfl (lv_at hl 1 rfl) ?_
  refine lv_imul hx hb dX7_cellAt_3 ?_
  refine lv_iload_n hx hb dX7_cellAt_4 rfl (lv_at hl 0 rfl) ?_
  refine lv_iadd hx hb dX7_cellAt_5 ?_
  exact s_iretR E hrt hlocks hf dX7_cellAt_6
abbrev rmX7_columnOf : Room := { frames := 0, cells := 0, slots := 0, locals := 0 }
set_option maxRecDepth 100000 in
set_option maxHeartbeats 4000000 in
theorem mX7_columnOf (l : Launch) (x0 : Int32) : sMS l yX7_columnOf (.code yX7_columnOf cX7_columnOf 1 (some .int) :: wsL_law) rmX7_columnOf [.int x0] (fX7_columnOf x0) := by
  intro res hf
  refine Met.ofW (cc := cX7_columnOf) (maxL := 1) (ret := (some .int)) (by decide) rfl ?_
  intro p e s m args below meth c s₁ B hml hv
  obtain ⟨rfl, -⟩ := hv
  have hx := B.exec
  have hb := B.bytes
  have hrt := B.returns
  have hts : ∀ w ∈ wsL_law, w.before _ s = true := fun w hw => atoms_spec (ws := .code yX7_columnOf cX7_columnOf 1 (some .int) :: wsL_law) B.pre w (List.mem_cons_of_mem _ hw)
  have hlocks := B.notSynchronized
  have E : CallFix p m c cX7_columnOf 1 s ([.int x0] : List Value).toArray wsL_law RX7 := ⟨hx, hb, hml, findClass_of_methodNamed B.named, hts⟩
  have hl := lv_entry ([.int x0]) (n := 1) (Nat.le_of_ble_eq_true rfl)
  rw [lg_entry_eq]
  generalize (lg_sl ([.int x0]) ++ List.replicate (1 - (lg_sl ([.int x0])).length) Slot.unset).toArray = ls at hl ⊢
  have hl : lv_has ls 1 [(0, .int x0)] := hl
  have hf := (fX7_columnOf.eq_1 ..).symm.trans hf
  refine lv_iload_n hx hb dX7_columnOf_0 rfl (lv_at hl 0 rfl) ?_
  refine lv_bipush (v := 14) hx hb dX7_columnOf_1 rfl ?_
  refine lv_irem hx hb dX7_columnOf_3 (by decide) ?_
  exact s_iretR E hrt hlocks hf dX7_columnOf_4
abbrev rmX7_rowOf : Room := { frames := 0, cells := 0, slots := 0, locals := 0 }
set_option maxRecDepth 100000 in
set_option maxHeartbeats 4000000 in
theorem mX7_rowOf (l : Launch) (x0 : Int32) : sMS l yX7_rowOf (.code yX7_rowOf cX7_rowOf 1 (some .int) :: wsL_law) rmX7_rowOf [.int x0] (fX7_rowOf x0) := by
  intro res hf
  refine Met.ofW (cc := cX7_rowOf) (maxL := 1) (ret := (some .int)) (by decide) rfl ?_
  intro p e s m args below meth c s₁ B hml hv
  obtain ⟨rfl, -⟩ := hv
  have hx := B.exec
  have hb := B.bytes
  have hrt := B.returns
  have hts : ∀ w ∈ wsL_law, w.before _ s = true := fun w hw => atoms_spec (ws := .code yX7_rowOf cX7_rowOf 1 (some .int) :: wsL_law) B.pre w (List.mem_cons_of_mem _ hw)
  have hlocks := B.notSynchronized
  have E : CallFix p m c cX7_rowOf 1 s ([.int x0] : List Value).toArray wsL_law RX7 := ⟨hx, hb, hml, findClass_of_methodNamed B.named, hts⟩
  have hl := lv_entry ([.int x0]) (n := 1) (Nat.le_of_ble_eq_true rfl)
  rw [lg_entry_eq]
  generalize (lg_sl ([.int x0]) ++ List.replicate (1 - (lg_sl ([.int x0])).length) Slot.unset).toArray = ls at hl ⊢
  have hl : lv_has ls 1 [(0, .int x0)] := hl
  have hf := (fX7_rowOf.eq_1 ..).symm.trans hf
  refine lv_iload_n hx hb dX7_rowOf_0 rfl (lv_at hl 0 rfl) ?_
  refine lv_bipush (v := 14) hx hb dX7_rowOf_1 rfl ?_
  refine lv_idiv hx hb dX7_rowOf_3 (by decide) ?_
  exact s_iretR E hrt hlocks hf dX7_rowOf_4
abbrev rmX7_at : Room := { frames := 0, cells := 0, slots := 0, locals := 0 }
set_option maxRecDepth 100000 in
set_option maxHeartbeats 4000000 in
theorem mX7_at (l : Launch) (D : va_G) (G : Nat → ClassId) (ad : Nat → Nat) (r : sR) (v : sV) (n : Nat) (x : Int64 × UInt64) (hsh : sSh r) (hn : 172 ≤ n) (x1 : Int32) (x2 : Int32) : sMR l yX7_at (.code yX7_at cX7_at 3 (some .int) :: wsL_law) rmX7_at D G ad r v n x [.ref (ad 157), .int x1, .int x2] (fX7_at x1 x2 v) := by
  intro res hf
  refine Met.ofW (cc := cX7_at) (maxL := 3) (ret := (some .int)) (by decide) rfl ?_
  intro p e s m args below meth c s₁ B hml hv
  obtain ⟨rfl, hU, hP⟩ := hv
  have hx := B.exec
  have hb := B.bytes
  have hrt := B.returns
  have hts : ∀ w ∈ wsL_law, w.before _ s = true := fun w hw => atoms_spec (ws := .code yX7_at cX7_at 3 (some .int) :: wsL_law) B.pre w (List.mem_cons_of_mem _ hw)
  have hlocks := B.notSynchronized
  have E : CallFix p m c cX7_at 3 s ([.ref (ad 157), .int x1, .int x2] : List Value).toArray wsL_law RX7 := ⟨hx, hb, hml, findClass_of_methodNamed B.named, hts⟩
  have hl := lv_entry ([.ref (ad 157), .int x1, .int x2]) (n := 3) (Nat.le_of_ble_eq_true rfl)
  rw [lg_entry_eq]
  generalize (lg_sl ([.ref (ad 157), .int x1, .int x2]) ++ List.replicate (3 - (lg_sl ([.ref (ad 157), .int x1, .int x2])).length) Slot.unset).toArray = ls at hl ⊢
  have hl : lv_has ls 3 [(0, .ref (ad 157)), (1, .int x1), (2, .int x2)] := hl
  have hf := (fX7_at.eq_1 ..).symm.trans hf
  refine lv_aload_n hx hb dX7_at_0 rfl (lv_at hl 0 rfl) ?_
  refine s_getR (k := 0) (t := 158) E hU hP sc9 (slt hn 157 rfl) rfl inlX7 (Nat.le_of_ble_eq_true rfl) rfl rfl wkX7_9 (hsh 157 0 158 rfl) dX7_at_1 ?_
  refine lv_sipush (v := 290) hx hb dX7_at_4 rfl ?_
  refine lv_bipush (v := 9) hx hb dX7_at_7 rfl ?_
  refine lv_iload_n hx hb dX7_at_9 rfl (lv_at hl 1 rfl) ?_
  refine lv_imul hx hb dX7_at_10 ?_
  refine lv_iadd hx hb dX7_at_11 ?_
  refine lv_iload_n hx hb dX7_at_12 rfl (lv_at hl 2 rfl) ?_
  refine lv_iadd hx hb dX7_at_13 ?_
  refine s_iald E hU hP (slt hn 158 rfl) rfl dX7_at_14 hf (fun y1 hf => ?_)
  exact s_iretR E hrt hlocks hf dX7_at_15
abbrev rmX7_isAgent : Room := { frames := 1, cells := 0, slots := 0, locals := 22 }
set_option maxRecDepth 100000 in
set_option maxHeartbeats 4000000 in
theorem mX7_isAgent (l : Launch) (D : va_G) (G : Nat → ClassId) (ad : Nat → Nat) (r : sR) (v : sV) (n : Nat) (x : Int64 × UInt64) (hsh : sSh r) (hn : 172 ≤ n) (x1 : Int32) : sMR l yX7_isAgent (.code yX7_isAgent cX7_isAgent 2 (some .boolean) :: wsL_law) rmX7_isAgent D G ad r v n x [.ref (ad 157), .int x1] (fX7_isAgent x1 v) := by
  intro res hf
  refine Met.ofW (cc := cX7_isAgent) (maxL := 2) (ret := (some .boolean)) (by decide) rfl ?_
  intro p e s m args below meth c s₁ B hml hv
  obtain ⟨rfl, hU, hP⟩ := hv
  have hx := B.exec
  have hb := B.bytes
  have hrt := B.returns
  have hts : ∀ w ∈ wsL_law, w.before _ s = true := fun w hw => atoms_spec (ws := .code yX7_isAgent cX7_isAgent 2 (some .boolean) :: wsL_law) B.pre w (List.mem_cons_of_mem _ hw)
  have hlocks := B.notSynchronized
  have E : CallFix p m c cX7_isAgent 2 s ([.ref (ad 157), .int x1] : List Value).toArray wsL_law RX7 := ⟨hx, hb, hml, findClass_of_methodNamed B.named, hts⟩
  have hl := lv_entry ([.ref (ad 157), .int x1]) (n := 2) (Nat.le_of_ble_eq_true rfl)
  rw [lg_entry_eq]
  generalize (lg_sl ([.ref (ad 157), .int x1]) ++ List.replicate (2 - (lg_sl ([.ref (ad 157), .int x1])).length) Slot.unset).toArray = ls at hl ⊢
  have hl : lv_has ls 2 [(0, .ref (ad 157)), (1, .int x1)] := hl
  have hf := (fX7_isAgent.eq_1 ..).symm.trans hf
  refine lv_iload_n hx hb dX7_isAgent_0 rfl (lv_at hl 1 rfl) ?_
  refine lv_iconst (v := 0) hx hb dX7_isAgent_1 rfl ?_
  refine lv_bipush (v := 15) hx hb dX7_isAgent_2 rfl ?_
  refine sc_R hf (rS_S (As := [.int x1, .int 0, .int 15]) (rest := []) E (mX7_isIn l x1 0 15) (cwGS 3 okX7_isIn wmX7_51 hts rfl rfl ⟨Nat.le_of_ble_eq_true rfl, Nat.le_of_ble_eq_true rfl⟩) rfl hl.1 (Nat.le_of_ble_eq_true rfl) dX7_isAgent_4 ⟨Nat.zero_le _, Nat.zero_le _⟩ rfl) (fun y1 hf => ?_)
  refine lv_if_eq (tgt := 24) hx hb dX7_isAgent_7 rfl (fun hc => ?_) (fun hc => ?_)
  · have hf := ite_t hf hc
    refine lv_iconst (v := 0) hx hb dX7_isAgent_24 rfl ?_
    exact s_zretR E hrt hlocks rfl hf dX7_isAgent_25
  · have hf := ite_f hf hc
    refine lv_aload_n hx hb dX7_isAgent_10 rfl (lv_at hl 0 rfl) ?_
    refine lv_iload_n hx hb dX7_isAgent_11 rfl (lv_at hl 1 rfl) ?_
    refine lv_iconst (v := 0) hx hb dX7_isAgent_12 rfl ?_
    refine sc_R hf (rV_R (As := [.int x1, .int 0]) (rest := []) E hU hP sc9 (slt hn 157 rfl) rfl (mX7_at l D G ad r _ n x hsh hn x1 0) (cwGV 2 okX7_at wmX7_105 hts rfl rfl ⟨Nat.le_of_ble_eq_true rfl, Nat.le_of_ble_eq_true rfl⟩) rfl hl.1 (Nat.le_of_ble_eq_true rfl) dX7_isAgent_13 ⟨Nat.zero_le _, Nat.zero_le _⟩ rfl) (fun y2 hf => ?_)
    refine lv_iconst (v := 1) hx hb dX7_isAgent_16 rfl ?_
    refine lv_icmp_ne (tgt := 24) hx hb dX7_isAgent_17 rfl (fun hc => ?_) (fun hc => ?_)
    · have hf := ite_f hf hc
      refine lv_iconst (v := 0) hx hb dX7_isAgent_24 rfl ?_
      exact s_zretR E hrt hlocks rfl hf dX7_isAgent_25
    · have hf := ite_t hf hc
      refine lv_iconst (v := 1) hx hb dX7_isAgent_20 rfl ?_
      refine lv_goto (tgt := 25) hx hb dX7_isAgent_21 rfl ?_
      exact s_zretR E hrt hlocks rfl hf dX7_isAgent_25
abbrev rmX7_agentOn : Room := { frames := 2, cells := 0, slots := 0, locals := 43 }
set_option maxRecDepth 100000 in
set_option maxHeartbeats 4000000 in
theorem lX7_agentOn_2 {K : Nat} {x1 : Int32} {res : Int32} (E : CallFix p m c cX7_agentOn 3 s args wsL_law RX7) (hlocks : meth.locks = false) (hrt : meth.sig.returnType = (some .int)) (hU : sU D G s) (hsh : sSh r) (hn : 172 ≤ n) {v : sV} (hP : va_P D vwCl (sWl G ad r v n x) s.heap) :
    ∀ (k : Nat) (x2 : Int32) (ls : Array Slot), fx1 (gX7_agentOn_2 K x1 v) k x2 = some res → lv_has ls 3 [(0, .ref (ad 157)), (1, .int x1), (2, .int x2)] → W p l e rmX7_agentOn s m args below meth c s.heap [] 0 0 (MQ below (vp_Si (fun q => q = res)) args s 0 0 (fun _ => False)) (F0 m 2 ls []) := by
  have hx := E.1
  have hb := E.2.1
  have hts := E.2.2.2.2
  intro k
  induction k with
  | zero =>
    intro x2 ls hf hl
    exact fx1_z hf
  | succ k ih =>
    intro x2 ls hf hl
    have hf := (gX7_agentOn_2.eq_1 ..).symm.trans hf
    refine lv_iload_n hx hb dX7_agentOn_2 rfl (lv_at hl 2 rfl) ?_
    refine lv_bipush (v := 16) hx hb dX7_agentOn_3 rfl ?_
    refine lv_icmp_ge (tgt := 34) hx hb dX7_agentOn_5 rfl (fun hc => ?_) (fun hc => ?_)
    · have hf := ite_t hf hc
      refine lv_iconst (v := (-1)) hx hb dX7_agentOn_34 rfl ?_
      exact s_iretR E hrt hlocks hf dX7_agentOn_35
    · have hf := ite_f hf hc
      refine lv_aload_n hx hb dX7_agentOn_8 rfl (lv_at hl 0 rfl) ?_
      refine lv_iload_n hx hb dX7_agentOn_9 rfl (lv_at hl 2 rfl) ?_
      refine sc_R hf (rV_R (As := [.int x2]) (rest := []) E hU hP sc9 (slt hn 157 rfl) rfl (mX7_isAgent l D G ad r _ n x hsh hn x2) (cwGV 1 okX7_isAgent wmX7_102 hts rfl rfl ⟨Nat.le_of_ble_eq_true rfl, Nat.le_of_ble_eq_true rfl⟩) rfl hl.1 (Nat.le_of_ble_eq_true rfl) dX7_agentOn_10 ⟨Nat.zero_le _, Nat.zero_le _⟩ rfl) (fun y1 hf => ?_)
      refine lv_if_eq (tgt := 28) hx hb dX7_agentOn_13 rfl (fun hc => ?_) (fun hc => ?_)
      · have hf := ite_t hf hc
        obtain ⟨z2, ez9, hf⟩ := nm_x hf
        refine lv_iinc (v := z2) (lv' := [(2, .int z2), (0, .ref (ad 157)), (1, .int x1)]) hx hb dX7_agentOn_28 hl (k := 2) rfl (by rw [ez9]; rfl) (Nat.le_of_ble_eq_true rfl) rfl (fun ls hl => ?_)
        refine lv_goto (tgt := 2) hx hb dX7_agentOn_31 rfl ?_
        exact ih _ _ hf (lv_sub hl [1, 2, 0] rfl)
      · have hf := ite_f hf hc
        refine lv_aload_n hx hb dX7_agentOn_16 rfl (lv_at hl 0 rfl) ?_
        refine lv_iload_n hx hb dX7_agentOn_17 rfl (lv_at hl 2 rfl) ?_
        refine lv_iconst (v := 1) hx hb dX7_agentOn_18 rfl ?_
        refine sc_R hf (rV_R (As := [.int x2, .int 1]) (rest := []) E hU hP sc9 (slt hn 157 rfl) rfl (mX7_at l D G ad r _ n x hsh hn x2 1) (cwGV 2 okX7_at wmX7_105 hts rfl rfl ⟨Nat.le_of_ble_eq_true rfl, Nat.le_of_ble_eq_true rfl⟩) rfl hl.1 (Nat.le_of_ble_eq_true rfl) dX7_agentOn_19 ⟨Nat.zero_le _, Nat.zero_le _⟩ rfl) (fun y3 hf => ?_)
        refine lv_iload_n hx hb dX7_agentOn_22 rfl (lv_at hl 1 rfl) ?_
        refine lv_icmp_ne (tgt := 28) hx hb dX7_agentOn_23 rfl (fun hc => ?_) (fun hc => ?_)
        · have hf := ite_f hf hc
          obtain ⟨z4, ez9, hf⟩ := nm_x hf
          refine lv_iinc (v := z4) (lv' := [(2, .int z4), (0, .ref (ad 157)), (1, .int x1)]) hx hb dX7_agentOn_28 hl (k := 2) rfl (by rw [ez9]; rfl) (Nat.le_of_ble_eq_true rfl) rfl (fun ls hl => ?_)
          refine lv_goto (tgt := 2) hx hb dX7_agentOn_31 rfl ?_
          exact ih _ _ hf (lv_sub hl [1, 2, 0] rfl)
        · have hf := ite_t hf hc
          refine lv_iload_n hx hb dX7_agentOn_26 rfl (lv_at hl 2 rfl) ?_
          exact s_iretR E hrt hlocks hf dX7_agentOn_27
set_option maxRecDepth 100000 in
set_option maxHeartbeats 4000000 in
theorem mX7_agentOn (l : Launch) (K : Nat) (D : va_G) (G : Nat → ClassId) (ad : Nat → Nat) (r : sR) (v : sV) (n : Nat) (x : Int64 × UInt64) (hsh : sSh r) (hn : 172 ≤ n) (x1 : Int32) : sMR l yX7_agentOn (.code yX7_agentOn cX7_agentOn 3 (some .int) :: wsL_law) rmX7_agentOn D G ad r v n x [.ref (ad 157), .int x1] (fX7_agentOn K x1 v) := by
  intro res hf
  refine Met.ofW (cc := cX7_agentOn) (maxL := 3) (ret := (some .int)) (by decide) rfl ?_
  intro p e s m args below meth c s₁ B hml hv
  obtain ⟨rfl, hU, hP⟩ := hv
  have hx := B.exec
  have hb := B.bytes
  have hrt := B.returns
  have hts : ∀ w ∈ wsL_law, w.before _ s = true := fun w hw => atoms_spec (ws := .code yX7_agentOn cX7_agentOn 3 (some .int) :: wsL_law) B.pre w (List.mem_cons_of_mem _ hw)
  have hlocks := B.notSynchronized
  have E : CallFix p m c cX7_agentOn 3 s ([.ref (ad 157), .int x1] : List Value).toArray wsL_law RX7 := ⟨hx, hb, hml, findClass_of_methodNamed B.named, hts⟩
  have hl := lv_entry ([.ref (ad 157), .int x1]) (n := 3) (Nat.le_of_ble_eq_true rfl)
  rw [lg_entry_eq]
  generalize (lg_sl ([.ref (ad 157), .int x1]) ++ List.replicate (3 - (lg_sl ([.ref (ad 157), .int x1])).length) Slot.unset).toArray = ls at hl ⊢
  have hl : lv_has ls 3 [(0, .ref (ad 157)), (1, .int x1)] := hl
  have hf := (fX7_agentOn.eq_1 ..).symm.trans hf
  refine lv_iconst (v := 0) hx hb dX7_agentOn_0 rfl ?_
  refine lv_istore_n (lv' := [(2, .int 0), (0, .ref (ad 157)), (1, .int x1)]) hx hb dX7_agentOn_1 rfl hl (Nat.le_of_ble_eq_true rfl) rfl (fun ls hl => ?_)
  exact lX7_agentOn_2 E hlocks hrt hU hsh hn hP _ _ _ hf (lv_sub hl [1, 2, 0] rfl)
abbrev rmX7_forgets : Room := { frames := 0, cells := 0, slots := 0, locals := 0 }
set_option maxRecDepth 100000 in
set_option maxHeartbeats 4000000 in
theorem lX7_forgets_2 {K : Nat} {res : sV} (E : CallFix p m c cX7_forgets 2 s args wsL_law RX7) (hlocks : meth.locks = false) (hrt : meth.sig.returnType = none) (hU : sU D G s) (hsh : sSh r) (hn : 172 ≤ n) :
    ∀ (k : Nat) (x1 : Int32) (v : sV) (H : Heap) (locs : List Loc) (ls : Array Slot), fx2 (gX7_forgets_2 K) k x1 v = some res → sB D G (sA ad n s.heap.size) s.heap ad r v n x H locs → lv_has ls 2 [(0, .ref (ad 157)), (1, .int x1)] → W p l e rmX7_forgets s m args below meth c H locs 0 0 (MQ below (sQV D G ad r n x s.heap.size res) args s 0 0 (sA ad n s.heap.size)) (F0 m 2 ls []) := by
  have hx := E.1
  have hb := E.2.1
  have hts := E.2.2.2.2
  intro k
  induction k with
  | zero =>
    intro x1 v H locs ls hf hB hl
    exact fx2_z hf
  | succ k ih =>
    intro x1 v H locs ls hf hB hl
    have hf := (gX7_forgets_2.eq_1 ..).symm.trans hf
    refine lv_iload_n hx hb dX7_forgets_2 rfl (lv_at hl 1 rfl) ?_
    refine lv_sipush (v := 140) hx hb dX7_forgets_3 rfl ?_
    refine lv_icmp_ge (tgt := 22) hx hb dX7_forgets_6 rfl (fun hc => ?_) (fun hc => ?_)
    · have hf := ite_t hf hc
      exact s_vretW E hrt hlocks hB hf dX7_forgets_22
    · have hf := ite_f hf hc
      refine lv_aload_n hx hb dX7_forgets_9 rfl (lv_at hl 0 rfl) ?_
      refine s_getR (k := 9) (t := 164) E hU hB.1 sc9 (slt hn 157 rfl) rfl inlX7 (Nat.le_of_ble_eq_true rfl) rfl rfl wkX7_28 (hsh 157 9 164 rfl) dX7_forgets_10 ?_
      refine lv_iload_n hx hb dX7_forgets_13 rfl (lv_at hl 1 rfl) ?_
      refine lv_iconst (v := 0) hx hb dX7_forgets_14 rfl ?_
      refine s_zast E hU hB (slt hn 164 rfl) rfl rfl dX7_forgets_15 hf (fun v1 hf H locs hB => ?_)
      obtain ⟨z2, ez9, hf⟩ := nm_x hf
      refine lv_iinc (v := z2) (lv' := [(1, .int z2), (0, .ref (ad 157))]) hx hb dX7_forgets_16 hl (k := 1) rfl (by rw [ez9]; rfl) (Nat.le_of_ble_eq_true rfl) rfl (fun ls hl => ?_)
      refine lv_goto (tgt := 2) hx hb dX7_forgets_19 rfl ?_
      exact ih _ _ _ _ _ hf hB (lv_sub hl [1, 0] rfl)
set_option maxRecDepth 100000 in
set_option maxHeartbeats 4000000 in
theorem mX7_forgets (l : Launch) (K : Nat) (D : va_G) (G : Nat → ClassId) (ad : Nat → Nat) (r : sR) (v : sV) (n : Nat) (x : Int64 × UInt64) (hsh : sSh r) (hn : 172 ≤ n) : sMV l yX7_forgets (.code yX7_forgets cX7_forgets 2 none :: wsL_law) rmX7_forgets D G ad r v n x [.ref (ad 157)] (fX7_forgets K v) := by
  intro sz res hf
  refine Met.ofW (cc := cX7_forgets) (maxL := 2) (ret := none) (by decide) rfl ?_
  intro p e s m args below meth c s₁ B hml hv
  obtain ⟨rfl, rfl, hU, hP, hD⟩ := hv
  have hx := B.exec
  have hb := B.bytes
  have hrt := B.returns
  have hts : ∀ w ∈ wsL_law, w.before _ s = true := fun w hw => atoms_spec (ws := .code yX7_forgets cX7_forgets 2 none :: wsL_law) B.pre w (List.mem_cons_of_mem _ hw)
  have hlocks := B.notSynchronized
  have E : CallFix p m c cX7_forgets 2 s ([.ref (ad 157)] : List Value).toArray wsL_law RX7 := ⟨hx, hb, hml, findClass_of_methodNamed B.named, hts⟩
  have hB : sB D G (sA ad n s.heap.size) s.heap ad r v n x s.heap [] := ⟨hP, sD_self hD, va_S.rf⟩
  have hl := lv_entry ([.ref (ad 157)]) (n := 2) (Nat.le_of_ble_eq_true rfl)
  rw [lg_entry_eq]
  generalize (lg_sl ([.ref (ad 157)]) ++ List.replicate (2 - (lg_sl ([.ref (ad 157)])).length) Slot.unset).toArray = ls at hl ⊢
  have hl : lv_has ls 2 [(0, .ref (ad 157))] := hl
  have hf := (fX7_forgets.eq_1 ..).symm.trans hf
  refine lv_iconst (v := 0) hx hb dX7_forgets_0 rfl ?_
  refine lv_istore_n (lv' := [(1, .int 0), (0, .ref (ad 157))]) hx hb dX7_forgets_1 rfl hl (Nat.le_of_ble_eq_true rfl) rfl (fun ls hl => ?_)
  exact lX7_forgets_2 E hlocks hrt hU hsh hn _ _ _ _ _ _ hf hB (lv_sub hl [1, 0] rfl)
end
