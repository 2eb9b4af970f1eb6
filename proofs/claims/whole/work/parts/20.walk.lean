section
variable {p : Program} {l : Launch} {e : Env} {s : State} {m : MethodId} {args : Array Value} {below : List Frame} {meth : Method} {c : Code}
variable {D : va_G} {G : Nat → ClassId} {ad : Nat → Nat} {r : sR} {n : Nat} {x : Int64 × UInt64}
abbrev rmJ6_bitCount_0f7a4 : Room := { frames := 0, cells := 0, slots := 0, locals := 0 }
set_option maxRecDepth 100000 in
set_option maxHeartbeats 4000000 in
theorem mJ6_bitCount_0f7a4 (l : Launch) (x0 : Int32) : sMS l yJ6_bitCount_0f7a4 (.code yJ6_bitCount_0f7a4 cJ6_bitCount_0f7a4 1 (some .int) :: wsL_law) rmJ6_bitCount_0f7a4 [.int x0] (fJ6_bitCount_0f7a4 x0) := by
  intro res hf
  refine Met.ofW (cc := cJ6_bitCount_0f7a4) (maxL := 1) (ret := (some .int)) (by decide) rfl ?_
  intro p e s m args below meth c s₁ B hml hv
  obtain ⟨rfl, -⟩ := hv
  have hx := B.exec
  have hb := B.bytes
  have hrt := B.returns
  have hts : ∀ w ∈ wsL_law, w.before _ s = true := fun w hw => atoms_spec (ws := .code yJ6_bitCount_0f7a4 cJ6_bitCount_0f7a4 1 (some .int) :: wsL_law) B.pre w (List.mem_cons_of_mem _ hw)
  have hlocks := B.notSynchronized
  have E : CallFix p m c cJ6_bitCount_0f7a4 1 s ([.int x0] : List Value).toArray wsL_law RJ6 := ⟨hx, hb, hml, findClass_of_methodNamed B.named, hts⟩
  have hl := lv_entry ([.int x0]) (n := 1) (Nat.le_of_ble_eq_true rfl)
  rw [lg_entry_eq]
  generalize (lg_sl ([.int x0]) ++ List.replicate (1 - (lg_sl ([.int x0])).length) Slot.unset).toArray = ls at hl ⊢
  have hl : lv_has ls 1 [(0, .int x0)] := hl
  have hf := (fJ6_bitCount_0f7a4.eq_1 ..).symm.trans hf
  refine lv_iload_n hx hb dJ6_bitCount_0f7a4_0 rfl (lv_at hl 0 rfl) ?_
  refine lv_iload_n hx hb dJ6_bitCount_0f7a4_1 rfl (lv_at hl 0 rfl) ?_
  refine lv_iconst (v := 1) hx hb dJ6_bitCount_0f7a4_2 rfl ?_
  refine lv_iushr hx hb dJ6_bitCount_0f7a4_3 rfl ?_
  refine lv_ldcw hx hb E.2.2.2.1 (hts _ wcnJ6_265) dJ6_bitCount_0f7a4_4 ?_
  refine lv_iand hx hb dJ6_bitCount_0f7a4_7 ?_
  refine lv_isub hx hb dJ6_bitCount_0f7a4_8 ?_
  refine s_nm hf (fun z1 hf => ?_)
  refine lv_istore_n (lv' := [(0, .int z1)]) hx hb dJ6_bitCount_0f7a4_9 rfl hl (Nat.le_of_ble_eq_true rfl) rfl (fun ls hl => ?_)
  refine lv_iload_n hx hb dJ6_bitCount_0f7a4_10 rfl (lv_at hl 0 rfl) ?_
  refine lv_ldcw hx hb E.2.2.2.1 (hts _ wcnJ6_266) dJ6_bitCount_0f7a4_11 ?_
  refine lv_iand hx hb dJ6_bitCount_0f7a4_14 ?_
  refine lv_iload_n hx hb dJ6_bitCount_0f7a4_15 rfl (lv_at hl 0 rfl) ?_
  refine lv_iconst (v := 2) hx hb dJ6_bitCount_0f7a4_16 rfl ?_
  refine lv_iushr hx hb dJ6_bitCount_0f7a4_17 rfl ?_
  refine lv_ldcw hx hb E.2.2.2.1 (hts _ wcnJ6_266) dJ6_bitCount_0f7a4_18 ?_
  refine lv_iand hx hb dJ6_bitCount_0f7a4_21 ?_
  refine lv_iadd hx hb dJ6_bitCount_0f7a4_22 ?_
  refine s_nm hf (fun z2 hf => ?_)
  refine lv_istore_n (lv' := [(0, .int z2)]) hx hb dJ6_bitCount_0f7a4_23 rfl hl (Nat.le_of_ble_eq_true rfl) rfl (fun ls hl => ?_)
  refine lv_iload_n hx hb dJ6_bitCount_0f7a4_24 rfl (lv_at hl 0 rfl) ?_
  refine lv_iload_n hx hb dJ6_bitCount_0f7a4_25 rfl (lv_at hl 0 rfl) ?_
  refine lv_iconst (v := 4) hx hb dJ6_bitCount_0f7a4_26 rfl ?_
  refine lv_iushr hx hb dJ6_bitCount_0f7a4_27 rfl ?_
  refine lv_iadd hx hb dJ6_bitCount_0f7a4_28 ?_
  refine lv_ldcw hx hb E.2.2.2.1 (hts _ wcnJ6_267) dJ6_bitCount_0f7a4_29 ?_
  refine lv_iand hx hb dJ6_bitCount_0f7a4_32 ?_
  refine s_nm hf (fun z3 hf => ?_)
  refine lv_istore_n (lv' := [(0, .int z3)]) hx hb dJ6_bitCount_0f7a4_33 rfl hl (Nat.le_of_ble_eq_true rfl) rfl (fun ls hl => ?_)
  refine lv_iload_n hx hb dJ6_bitCount_0f7a4_34 rfl (lv_at hl 0 rfl) ?_
  refine lv_iload_n hx hb dJ6_bitCount_0f7a4_35 rfl (lv_at hl 0 rfl) ?_
  refine lv_bipush (v := 8) hx hb dJ6_bitCount_0f7a4_36 rfl ?_
  refine lv_iushr hx hb dJ6_bitCount_0f7a4_38 rfl ?_
  refine lv_iadd hx hb dJ6_bitCount_0f7a4_39 ?_
  refine s_nm hf (fun z4 hf => ?_)
  refine lv_istore_n (lv' := [(0, .int z4)]) hx hb dJ6_bitCount_0f7a4_40 rfl hl (Nat.le_of_ble_eq_true rfl) rfl (fun ls hl => ?_)
  refine lv_iload_n hx hb dJ6_bitCount_0f7a4_41 rfl (lv_at hl 0 rfl) ?_
  refine lv_iload_n hx hb dJ6_bitCount_0f7a4_42 rfl (lv_at hl 0 rfl) ?_
  refine lv_bipush (v := 16) hx hb dJ6_bitCount_0f7a4_43 rfl ?_
  refine lv_iushr hx hb dJ6_bitCount_0f7a4_45 rfl ?_
  refine lv_iadd hx hb dJ6_bitCount_0f7a4_46 ?_
  refine s_nm hf (fun z5 hf => ?_)
  refine lv_istore_n (lv' := [(0, .int z5)]) hx hb dJ6_bitCount_0f7a4_47 rfl hl (Nat.le_of_ble_eq_true rfl) rfl (fun ls hl => ?_)
  refine lv_iload_n hx hb dJ6_bitCount_0f7a4_48 rfl (lv_at hl 0 rfl) ?_
  refine lv_bipush (v := 63) hx hb dJ6_bitCount_0f7a4_49 rfl ?_
  refine lv_iand hx hb dJ6_bitCount_0f7a4_51 ?_
  exact s_iretR E hrt hlocks hf dJ6_bitCount_0f7a4_52
abbrev rmX7_thrown : Room := { frames := 0, cells := 0, slots := 0, locals := 0 }
set_option maxRecDepth 100000 in
set_option maxHeartbeats 4000000 in
theorem mX7_thrown (l : Launch) (D : va_G) (G : Nat → ClassId) (ad : Nat → Nat) (r : sR) (v : sV) (n : Nat) (x : Int64 × UInt64) (hsh : sSh r) (hn : 172 ≤ n) : sMR l yX7_thrown (.code yX7_thrown cX7_thrown 1 (some .int) :: wsL_law) rmX7_thrown D G ad r v n x [.ref (ad 157)] (fX7_thrown v) := by
  intro res hf
  refine Met.ofW (cc := cX7_thrown) (maxL := 1) (ret := (some .int)) (by decide) rfl ?_
  intro p e s m args below meth c s₁ B hml hv
  obtain ⟨rfl, hU, hP⟩ := hv
  have hx := B.exec
  have hb := B.bytes
  have hrt := B.returns
  have hts : ∀ w ∈ wsL_law, w.before _ s = true := fun w hw => atoms_spec (ws := .code yX7_thrown cX7_thrown 1 (some .int) :: wsL_law) B.pre w (List.mem_cons_of_mem _ hw)
  have hlocks := B.notSynchronized
  have E : CallFix p m c cX7_thrown 1 s ([.ref (ad 157)] : List Value).toArray wsL_law RX7 := ⟨hx, hb, hml, findClass_of_methodNamed B.named, hts⟩
  have hl := lv_entry ([.ref (ad 157)]) (n := 1) (Nat.le_of_ble_eq_true rfl)
  rw [lg_entry_eq]
  generalize (lg_sl ([.ref (ad 157)]) ++ List.replicate (1 - (lg_sl ([.ref (ad 157)])).length) Slot.unset).toArray = ls at hl ⊢
  have hl : lv_has ls 1 [(0, .ref (ad 157))] := hl
  have hf := (fX7_thrown.eq_1 ..).symm.trans hf
  refine lv_aload_n hx hb dX7_thrown_0 rfl (lv_at hl 0 rfl) ?_
  refine s_getI (k := 6) E hU hP sc9 (slt hsh hn 157 rfl) rfl inlX7 (Nat.le_of_ble_eq_true rfl) rfl rfl wkX7_47 dX7_thrown_1 ?_
  exact s_iretR E hrt hlocks hf dX7_thrown_4
abbrev rmX7_isIn : Room := { frames := 0, cells := 0, slots := 0, locals := 0 }
set_option maxRecDepth 100000 in
set_option maxHeartbeats 4000000 in
theorem mX7_isIn (l : Launch) (x0 : Int32) (x1 : Int32) (x2 : Int32) : sMS l yX7_isIn (.code yX7_isIn cX7_isIn 3 (some .boolean) :: wsL_law) rmX7_isIn [.int x0, .int x1, .int x2] (fX7_isIn x0 x1 x2) := by
  intro res hf
  refine Met.ofW (cc := cX7_isIn) (maxL := 3) (ret := (some .boolean)) (by decide) rfl ?_
  intro p e s m args below meth c s₁ B hml hv
  obtain ⟨rfl, -⟩ := hv
  have hx := B.exec
  have hb := B.bytes
  have hrt := B.returns
  have hts : ∀ w ∈ wsL_law, w.before _ s = true := fun w hw => atoms_spec (ws := .code yX7_isIn cX7_isIn 3 (some .boolean) :: wsL_law) B.pre w (List.mem_cons_of_mem _ hw)
  have hlocks := B.notSynchronized
  have E : CallFix p m c cX7_isIn 3 s ([.int x0, .int x1, .int x2] : List Value).toArray wsL_law RX7 := ⟨hx, hb, hml, findClass_of_methodNamed B.named, hts⟩
  have hl := lv_entry ([.int x0, .int x1, .int x2]) (n := 3) (Nat.le_of_ble_eq_true rfl)
  rw [lg_entry_eq]
  generalize (lg_sl ([.int x0, .int x1, .int x2]) ++ List.replicate (3 - (lg_sl ([.int x0, .int x1, .int x2])).length) Slot.unset).toArray = ls at hl ⊢
  have hl : lv_has ls 3 [(0, .int x0), (1, .int x1), (2, .int x2)] := hl
  have hf := (fX7_isIn.eq_1 ..).symm.trans hf
  refine lv_iload_n hx hb dX7_isIn_0 rfl (lv_at hl 0 rfl) ?_
  refine lv_iload_n hx hb dX7_isIn_1 rfl (lv_at hl 1 rfl) ?_
  refine lv_icmp_lt (tgt := 14) hx hb dX7_isIn_2 rfl (fun hc => ?_) (fun hc => ?_)
  · have hf := ite_t hf hc
    refine lv_iconst (v := 0) hx hb dX7_isIn_14 rfl ?_
    exact s_zretR E hrt hlocks rfl hf dX7_isIn_15
  · have hf := ite_f hf hc
    refine lv_iload_n hx hb dX7_isIn_5 rfl (lv_at hl 0 rfl) ?_
    refine lv_iload_n hx hb dX7_isIn_6 rfl (lv_at hl 2 rfl) ?_
    refine lv_icmp_gt (tgt := 14) hx hb dX7_isIn_7 rfl (fun hc => ?_) (fun hc => ?_)
    · have hf := ite_t hf hc
      refine lv_iconst (v := 0) hx hb dX7_isIn_14 rfl ?_
      exact s_zretR E hrt hlocks rfl hf dX7_isIn_15
    · have hf := ite_f hf hc
      refine lv_iconst (v := 1) hx hb dX7_isIn_10 rfl ?_
      refine lv_goto (tgt := 15) hx hb dX7_isIn_11 rfl ?_
      exact s_zretR E hrt hlocks rfl hf dX7_isIn_15
abbrev rmX7_isCell : Room := { frames := 1, cells := 0, slots := 0, locals := 22 }
set_option maxRecDepth 100000 in
set_option maxHeartbeats 4000000 in
theorem mX7_isCell (l : Launch) (x0 : Int32) (x1 : Int32) : sMS l yX7_isCell (.code yX7_isCell cX7_isCell 2 (some .boolean) :: wsL_law) rmX7_isCell [.int x0, .int x1] (fX7_isCell x0 x1) := by
  intro res hf
  refine Met.ofW (cc := cX7_isCell) (maxL := 2) (ret := (some .boolean)) (by decide) rfl ?_
  intro p e s m args below meth c s₁ B hml hv
  obtain ⟨rfl, -⟩ := hv
  have hx := B.exec
  have hb := B.bytes
  have hrt := B.returns
  have hts : ∀ w ∈ wsL_law, w.before _ s = true := fun w hw => atoms_spec (ws := .code yX7_isCell cX7_isCell 2 (some .boolean) :: wsL_law) B.pre w (List.mem_cons_of_mem _ hw)
  have hlocks := B.notSynchronized
  have E : CallFix p m c cX7_isCell 2 s ([.int x0, .int x1] : List Value).toArray wsL_law RX7 := ⟨hx, hb, hml, findClass_of_methodNamed B.named, hts⟩
  have hl := lv_entry ([.int x0, .int x1]) (n := 2) (Nat.le_of_ble_eq_true rfl)
  rw [lg_entry_eq]
  generalize (lg_sl ([.int x0, .int x1]) ++ List.replicate (2 - (lg_sl ([.int x0, .int x1])).length) Slot.unset).toArray = ls at hl ⊢
  have hl : lv_has ls 2 [(0, .int x0), (1, .int x1)] := hl
  have hf := (fX7_isCell.eq_1 ..).symm.trans hf
  refine lv_iload_n hx hb dX7_isCell_0 rfl (lv_at hl 0 rfl) ?_
  refine lv_iconst (v := 0) hx hb dX7_isCell_1 rfl ?_
  refine lv_bipush (v := 13) hx hb dX7_isCell_2 rfl ?_
  refine sc_R hf (rS_S (As := [.int x0, .int 0, .int 13]) (rest := []) E (mX7_isIn l x0 0 13) (cwGS 3 okX7_isIn wmX7_51 hts rfl rfl ⟨Nat.le_of_ble_eq_true rfl, Nat.le_of_ble_eq_true rfl⟩) rfl hl.1 (Nat.le_of_ble_eq_true rfl) dX7_isCell_4 ⟨Nat.zero_le _, Nat.zero_le _⟩ rfl) (fun y1 hf => ?_)
  refine lv_if_eq (tgt := 24) hx hb dX7_isCell_7 rfl (fun hc => ?_) (fun hc => ?_)
  · have hf := ite_t hf hc
    refine lv_iconst (v := 0) hx hb dX7_isCell_24 rfl ?_
    exact s_zretR E hrt hlocks rfl hf dX7_isCell_25
  · have hf := ite_f hf hc
    refine lv_iload_n hx hb dX7_isCell_10 rfl (lv_at hl 1 rfl) ?_
    refine lv_iconst (v := 0) hx hb dX7_isCell_11 rfl ?_
    refine lv_bipush (v := 9) hx hb dX7_isCell_12 rfl ?_
    refine sc_R hf (rS_S (As := [.int x1, .int 0, .int 9]) (rest := []) E (mX7_isIn l x1 0 9) (cwGS 3 okX7_isIn wmX7_51 hts rfl rfl ⟨Nat.le_of_ble_eq_true rfl, Nat.le_of_ble_eq_true rfl⟩) rfl hl.1 (Nat.le_of_ble_eq_true rfl) dX7_isCell_14 ⟨Nat.zero_le _, Nat.zero_le _⟩ rfl) (fun y2 hf => ?_)
    refine lv_if_eq (tgt := 24) hx hb dX7_isCell_17 rfl (fun hc => ?_) (fun hc => ?_)
    · have hf := ite_t hf hc
      refine lv_iconst (v := 0) hx hb dX7_isCell_24 rfl ?_
      exact s_zretR E hrt hlocks rfl hf dX7_isCell_25
    · have hf := ite_f hf hc
      refine lv_iconst (v := 1) hx hb dX7_isCell_20 rfl ?_
      refine lv_goto (tgt := 25) hx hb dX7_isCell_21 rfl ?_
      exact s_zretR E hrt hlocks rfl hf dX7_isCell_25
abbrev rmX7_cellAt : Room := { frames := 0, cells := 0, slots := 0, locals := 0 }
set_option maxRecDepth 100000 in
set_option maxHeartbeats 4000000 in
theorem mX7_cellAt (l : Launch) (x0 : Int32) (x1 : Int32) : sMS l yX7_cellAt (.code yX7_cellAt cX7_cellAt 2 (some .int) :: wsL_law) rmX7_cellAt [.int x0, .int x1] (fX7_cellAt x0 x1) := by
  intro res hf
  refine Met.ofW (cc := cX7_cellAt) (maxL := 2) (ret := (some .int)) (by decide) rfl ?_
  intro p e s m args below meth c s₁ B hml hv
  obtain ⟨rfl, -⟩ := hv
  have hx := B.exec
  have hb := B.bytes
  have hrt := B.returns
  have hts : ∀ w ∈ wsL_law, w.before _ s = true := fun w hw => atoms_spec (ws := .code yX7_cellAt cX7_cellAt 2 (some .int) :: wsL_law) B.pre w (List.mem_cons_of_mem _ hw)
  have hlocks := B.notSynchronized
  have E : CallFix p m c cX7_cellAt 2 s ([.int x0, .int x1] : List Value).toArray wsL_law RX7 := ⟨hx, hb, hml, findClass_of_methodNamed B.named, hts⟩
  have hl := lv_entry ([.int x0, .int x1]) (n := 2) (Nat.le_of_ble_eq_true rfl)
  rw [lg_entry_eq]
  generalize (lg_sl ([.int x0, .int x1]) ++ List.replicate (2 - (lg_sl ([.int x0, .int x1])).length) Slot.unset).toArray = ls at hl ⊢
  have hl : lv_has ls 2 [(0, .int x0), (1, .int x1)] := hl
  have hf := (fX7_cellAt.eq_1 ..).symm.trans hf
  refine lv_bipush (v := 14) hx hb dX7_cellAt_0 rfl ?_
  refine lv_iload_n hx hb dX7_cellAt_2 rfl (lv_at hl 1 rfl) ?_
  refine lv_imul hx hb dX7_cellAt_3 ?_
  refine lv_iload_n hx hb dX7_cellAt_4 rfl (lv_at hl 0 rfl) ?_
  refine lv_iadd hx hb dX7_cellAt_5 ?_
  exact s_iretR E hrt hlocks hf dX7_cellAt_6
abbrev rmX7_columnOf : Room := { frames := 0, cells := 0, slots := 0, locals := 0 }
set_option maxRecDepth 100000 in
set_option maxHeartbeats 4000000 in
theorem mX7_columnOf (l : Launch) (x0 : Int32) : sMS l yX7_columnOf (.code yX7_columnOf cX7_columnOf 1 (some .int) :: wsL_law) rmX7_columnOf [.int x0] (fX7_columnOf x0) := by
  intro res hf
  refine Met.ofW (cc := cX7_columnOf) (maxL := 1) (ret := (some .int)) (by decide) rfl ?_
  intro p e s m args below meth c s₁ B hml hv
  obtain ⟨rfl, -⟩ := hv
  have hx := B.exec
  have hb := B.bytes
  have hrt := B.returns
  have hts : ∀ w ∈ wsL_law, w.before _ s = true := fun w hw => atoms_spec (ws := .code yX7_columnOf cX7_columnOf 1 (some .int) :: wsL_law) B.pre w (List.mem_cons_of_mem _ hw)
  have hlocks := B.notSynchronized
  have E : CallFix p m c cX7_columnOf 1 s ([.int x0] : List Value).toArray wsL_law RX7 := ⟨hx, hb, hml, findClass_of_methodNamed B.named, hts⟩
  have hl := lv_entry ([.int x0]) (n := 1) (Nat.le_of_ble_eq_true rfl)
  rw [lg_entry_eq]
  generalize (lg_sl ([.int x0]) ++ List.replicate (1 - (lg_sl ([.int x0])).length) Slot.unset).toArray = ls at hl ⊢
  have hl : lv_has ls 1 [(0, .int x0)] := hl
  have hf := (fX7_columnOf.eq_1 ..).symm.trans hf
  refine lv_iload_n hx hb dX7_columnOf_0 rfl (lv_at hl 0 rfl) ?_
  refine lv_bipush (v := 14) hx hb dX7_columnOf_1 rfl ?_
  refine lv_irem hx hb dX7_columnOf_3 (by decide) ?_
  exact s_iretR E hrt hlocks hf dX7_columnOf_4
abbrev rmX7_rowOf : Room := { frames := 0, cells := 0, slots := 0, locals := 0 }
set_option maxRecDepth 100000 in
set_option maxHeartbeats 4000000 in
theorem mX7_rowOf (l : Launch) (x0 : Int32) : sMS l yX7_rowOf (.code yX7_rowOf cX7_rowOf 1 (some .int) :: wsL_law) rmX7_rowOf [.int x0] (fX7_rowOf x0) := by
  intro res hf
  refine Met.ofW (cc := cX7_rowOf) (maxL := 1) (ret := (some .int)) (by decide) rfl ?_
  intro p e s m args below meth c s₁ B hml hv
  obtain ⟨rfl, -⟩ := hv
  have hx := B.exec
  have hb := B.bytes
  have hrt := B.returns
  have hts : ∀ w ∈ wsL_law, w.before _ s = true := fun w hw => atoms_spec (ws := .code yX7_rowOf cX7_rowOf 1 (some .int) :: wsL_law) B.pre w (List.mem_cons_of_mem _ hw)
  have hlocks := B.notSynchronized
  have E : CallFix p m c cX7_rowOf 1 s ([.int x0] : List Value).toArray wsL_law RX7 := ⟨hx, hb, hml, findClass_of_methodNamed B.named, hts⟩
  have hl := lv_entry ([.int x0]) (n := 1) (Nat.le_of_ble_eq_true rfl)
  rw [lg_entry_eq]
  generalize (lg_sl ([.int x0]) ++ List.replicate (1 - (lg_sl ([.int x0])).length) Slot.unset).toArray = ls at hl ⊢
  have hl : lv_has ls 1 [(0, .int x0)] := hl
  have hf := (fX7_rowOf.eq_1 ..).symm.trans hf
  refine lv_iload_n hx hb dX7_rowOf_0 rfl (lv_at hl 0 rfl) ?_
  refine lv_bipush (v := 14) hx hb dX7_rowOf_1 rfl ?_
  refine lv_idiv hx hb dX7_rowOf_3 (by decide) ?_
  exact s_iretR E hrt hlocks hf dX7_rowOf_4
abbrev rmX7_neighbor : Room := { frames := 2, cells := 0, slots := 0, locals := 43 }
set_option maxRecDepth 100000 in
set_option maxHeartbeats 4000000 in
theorem wX7_neighbor_47 {x2 : Int32} {t0 : Int32} {t1 : Int32} {res : Int32} (E : CallFix p m c cX7_neighbor 4 s args wsL_law RX7) (hlocks : meth.locks = false) (hrt : meth.sig.returnType = (some .int)) {ls : Array Slot} (hf : bX7_neighbor_47 x2 t0 t1 = some res) (hl : lv_has ls 4 [(2, .int x2)]) :
    W p l e rmX7_neighbor s m args below meth c s.heap [] 0 0 (MQ below (vp_Si (fun q => q = res)) args s 0 0 (fun _ => False)) (F0 m 47 ls [.int t1, .int t0]) := by
  have hx := E.1
  have hb := E.2.1
  have hts := E.2.2.2.2
  have hf := (bX7_neighbor_47.eq_1 ..).symm.trans hf
  refine lv_iadd hx hb dX7_neighbor_47 ?_
  refine s_nm hf (fun z4 hf => ?_)
  refine lv_istore_n (lv' := [(3, .int z4), (2, .int x2)]) hx hb dX7_neighbor_48 rfl hl (Nat.le_of_ble_eq_true rfl) rfl (fun ls hl => ?_)
  refine lv_iload_n hx hb dX7_neighbor_49 rfl (lv_at hl 1 rfl) ?_
  refine lv_iload_n hx hb dX7_neighbor_50 rfl (lv_at hl 0 rfl) ?_
  refine sc_R hf (rS_S (As := [.int x2, .int z4]) (rest := []) E (mX7_isCell l x2 z4) (cwGS 2 okX7_isCell wmX7_62 hts rfl rfl ⟨Nat.le_of_ble_eq_true rfl, Nat.le_of_ble_eq_true rfl⟩) rfl hl.1 (Nat.le_of_ble_eq_true rfl) dX7_neighbor_51 ⟨Nat.zero_le _, Nat.zero_le _⟩ rfl) (fun y5 hf => ?_)
  refine lv_if_eq (tgt := 65) hx hb dX7_neighbor_54 rfl (fun hc => ?_) (fun hc => ?_)
  · have hf := ite_t hf hc
    refine lv_iconst (v := (-1)) hx hb dX7_neighbor_65 rfl ?_
    exact s_iretR E hrt hlocks hf dX7_neighbor_66
  · have hf := ite_f hf hc
    refine lv_iload_n hx hb dX7_neighbor_57 rfl (lv_at hl 1 rfl) ?_
    refine lv_iload_n hx hb dX7_neighbor_58 rfl (lv_at hl 0 rfl) ?_
    refine sc_R hf (rS_S (As := [.int x2, .int z4]) (rest := []) E (mX7_cellAt l x2 z4) (cwGS 2 okX7_cellAt wmX7_66 hts rfl rfl ⟨Nat.le_of_ble_eq_true rfl, Nat.le_of_ble_eq_true rfl⟩) rfl hl.1 (Nat.le_of_ble_eq_true rfl) dX7_neighbor_59 ⟨Nat.zero_le _, Nat.zero_le _⟩ rfl) (fun y6 hf => ?_)
    refine lv_goto (tgt := 66) hx hb dX7_neighbor_62 rfl ?_
    exact s_iretR E hrt hlocks hf dX7_neighbor_66
set_option maxRecDepth 100000 in
set_option maxHeartbeats 4000000 in
theorem wX7_neighbor_23 {x0 : Int32} {x1 : Int32} {t0 : Int32} {t1 : Int32} {res : Int32} (E : CallFix p m c cX7_neighbor 4 s args wsL_law RX7) (hlocks : meth.locks = false) (hrt : meth.sig.returnType = (some .int)) {ls : Array Slot} (hf : bX7_neighbor_23 x0 x1 t0 t1 = some res) (hl : lv_has ls 4 [(0, .int x0), (1, .int x1)]) :
    W p l e rmX7_neighbor s m args below meth c s.heap [] 0 0 (MQ below (vp_Si (fun q => q = res)) args s 0 0 (fun _ => False)) (F0 m 23 ls [.int t1, .int t0]) := by
  have hx := E.1
  have hb := E.2.1
  have hts := E.2.2.2.2
  have hf := (bX7_neighbor_23.eq_1 ..).symm.trans hf
  refine lv_iadd hx hb dX7_neighbor_23 ?_
  refine s_nm hf (fun z2 hf => ?_)
  refine lv_istore_n (lv' := [(2, .int z2), (0, .int x0), (1, .int x1)]) hx hb dX7_neighbor_24 rfl hl (Nat.le_of_ble_eq_true rfl) rfl (fun ls hl => ?_)
  refine lv_iload_n hx hb dX7_neighbor_25 rfl (lv_at hl 1 rfl) ?_
  refine sc_R hf (rS_S (As := [.int x0]) (rest := []) E (mX7_rowOf l x0) (cwGS 1 okX7_rowOf wmX7_59 hts rfl rfl ⟨Nat.le_of_ble_eq_true rfl, Nat.le_of_ble_eq_true rfl⟩) rfl hl.1 (Nat.le_of_ble_eq_true rfl) dX7_neighbor_26 ⟨Nat.zero_le _, Nat.zero_le _⟩ rfl) (fun y3 hf => ?_)
  refine lv_iload_n hx hb dX7_neighbor_29 rfl (lv_at hl 2 rfl) ?_
  refine lv_iconst (v := 2) hx hb dX7_neighbor_30 rfl ?_
  refine lv_icmp_ne (tgt := 38) hx hb dX7_neighbor_31 rfl (fun hc => ?_) (fun hc => ?_)
  · have hf := ite_f hf hc
    refine lv_iload_n hx hb dX7_neighbor_38 rfl (lv_at hl 2 rfl) ?_
    refine lv_if_ne (tgt := 46) hx hb dX7_neighbor_39 rfl (fun hc => ?_) (fun hc => ?_)
    · have hf := ite_f hf hc
      refine lv_iconst (v := 0) hx hb dX7_neighbor_46 rfl ?_
      exact wX7_neighbor_47 E hlocks hrt hf (lv_sub hl [0] rfl)
    · have hf := ite_t hf hc
      refine lv_iconst (v := (-1)) hx hb dX7_neighbor_42 rfl ?_
      refine lv_goto (tgt := 47) hx hb dX7_neighbor_43 rfl ?_
      exact wX7_neighbor_47 E hlocks hrt hf (lv_sub hl [0] rfl)
  · have hf := ite_t hf hc
    refine lv_iconst (v := 1) hx hb dX7_neighbor_34 rfl ?_
    refine lv_goto (tgt := 47) hx hb dX7_neighbor_35 rfl ?_
    exact wX7_neighbor_47 E hlocks hrt hf (lv_sub hl [0] rfl)
set_option maxRecDepth 100000 in
set_option maxHeartbeats 4000000 in
theorem mX7_neighbor (l : Launch) (x0 : Int32) (x1 : Int32) : sMS l yX7_neighbor (.code yX7_neighbor cX7_neighbor 4 (some .int) :: wsL_law) rmX7_neighbor [.int x0, .int x1] (fX7_neighbor x0 x1) := by
  intro res hf
  refine Met.ofW (cc := cX7_neighbor) (maxL := 4) (ret := (some .int)) (by decide) rfl ?_
  intro p e s m args below meth c s₁ B hml hv
  obtain ⟨rfl, -⟩ := hv
  have hx := B.exec
  have hb := B.bytes
  have hrt := B.returns
  have hts : ∀ w ∈ wsL_law, w.before _ s = true := fun w hw => atoms_spec (ws := .code yX7_neighbor cX7_neighbor 4 (some .int) :: wsL_law) B.pre w (List.mem_cons_of_mem _ hw)
  have hlocks := B.notSynchronized
  have E : CallFix p m c cX7_neighbor 4 s ([.int x0, .int x1] : List Value).toArray wsL_law RX7 := ⟨hx, hb, hml, findClass_of_methodNamed B.named, hts⟩
  have hl := lv_entry ([.int x0, .int x1]) (n := 4) (Nat.le_of_ble_eq_true rfl)
  rw [lg_entry_eq]
  generalize (lg_sl ([.int x0, .int x1]) ++ List.replicate (4 - (lg_sl ([.int x0, .int x1])).length) Slot.unset).toArray = ls at hl ⊢
  have hl : lv_has ls 4 [(0, .int x0), (1, .int x1)] := hl
  have hf := (fX7_neighbor.eq_1 ..).symm.trans hf
  refine lv_iload_n hx hb dX7_neighbor_0 rfl (lv_at hl 0 rfl) ?_
  refine sc_R hf (rS_S (As := [.int x0]) (rest := []) E (mX7_columnOf l x0) (cwGS 1 okX7_columnOf wmX7_55 hts rfl rfl ⟨Nat.le_of_ble_eq_true rfl, Nat.le_of_ble_eq_true rfl⟩) rfl hl.1 (Nat.le_of_ble_eq_true rfl) dX7_neighbor_1 ⟨Nat.zero_le _, Nat.zero_le _⟩ rfl) (fun y1 hf => ?_)
  refine lv_iload_n hx hb dX7_neighbor_4 rfl (lv_at hl 1 rfl) ?_
  refine lv_iconst (v := 1) hx hb dX7_neighbor_5 rfl ?_
  refine lv_icmp_ne (tgt := 13) hx hb dX7_neighbor_6 rfl (fun hc => ?_) (fun hc => ?_)
  · have hf := ite_f hf hc
    refine lv_iload_n hx hb dX7_neighbor_13 rfl (lv_at hl 1 rfl) ?_
    refine lv_iconst (v := 3) hx hb dX7_neighbor_14 rfl ?_
    refine lv_icmp_ne (tgt := 22) hx hb dX7_neighbor_15 rfl (fun hc => ?_) (fun hc => ?_)
    · have hf := ite_f hf hc
      refine lv_iconst (v := 0) hx hb dX7_neighbor_22 rfl ?_
      exact wX7_neighbor_23 E hlocks hrt hf (lv_sub hl [0, 1] rfl)
    · have hf := ite_t hf hc
      refine lv_iconst (v := (-1)) hx hb dX7_neighbor_18 rfl ?_
      refine lv_goto (tgt := 23) hx hb dX7_neighbor_19 rfl ?_
      exact wX7_neighbor_23 E hlocks hrt hf (lv_sub hl [0, 1] rfl)
  · have hf := ite_t hf hc
    refine lv_iconst (v := 1) hx hb dX7_neighbor_9 rfl ?_
    refine lv_goto (tgt := 23) hx hb dX7_neighbor_10 rfl ?_
    exact wX7_neighbor_23 E hlocks hrt hf (lv_sub hl [0, 1] rfl)
abbrev rmX7_isFree : Room := { frames := 0, cells := 0, slots := 0, locals := 0 }
set_option maxRecDepth 100000 in
set_option maxHeartbeats 4000000 in
theorem mX7_isFree (l : Launch) (D : va_G) (G : Nat → ClassId) (ad : Nat → Nat) (r : sR) (v : sV) (n : Nat) (x : Int64 × UInt64) (hsh : sSh r) (hn : 172 ≤ n) (x1 : Int32) : sMR l yX7_isFree (.code yX7_isFree cX7_isFree 2 (some .boolean) :: wsL_law) rmX7_isFree D G ad r v n x [.ref (ad 157), .int x1] (fX7_isFree x1 v) := by
  intro res hf
  refine Met.ofW (cc := cX7_isFree) (maxL := 2) (ret := (some .boolean)) (by decide) rfl ?_
  intro p e s m args below meth c s₁ B hml hv
  obtain ⟨rfl, hU, hP⟩ := hv
  have hx := B.exec
  have hb := B.bytes
  have hrt := B.returns
  have hts : ∀ w ∈ wsL_law, w.before _ s = true := fun w hw => atoms_spec (ws := .code yX7_isFree cX7_isFree 2 (some .boolean) :: wsL_law) B.pre w (List.mem_cons_of_mem _ hw)
  have hlocks := B.notSynchronized
  have E : CallFix p m c cX7_isFree 2 s ([.ref (ad 157), .int x1] : List Value).toArray wsL_law RX7 := ⟨hx, hb, hml, findClass_of_methodNamed B.named, hts⟩
  have hl := lv_entry ([.ref (ad 157), .int x1]) (n := 2) (Nat.le_of_ble_eq_true rfl)
  rw [lg_entry_eq]
  generalize (lg_sl ([.ref (ad 157), .int x1]) ++ List.replicate (2 - (lg_sl ([.ref (ad 157), .int x1])).length) Slot.unset).toArray = ls at hl ⊢
  have hl : lv_has ls 2 [(0, .ref (ad 157)), (1, .int x1)] := hl
  have hf := (fX7_isFree.eq_1 ..).symm.trans hf
  refine lv_iload_n hx hb dX7_isFree_0 rfl (lv_at hl 1 rfl) ?_
  refine lv_if_lt (tgt := 19) hx hb dX7_isFree_1 rfl (fun hc => ?_) (fun hc => ?_)
  · have hf := ite_t hf hc
    refine lv_iconst (v := 0) hx hb dX7_isFree_19 rfl ?_
    exact s_zretR E hrt hlocks rfl hf dX7_isFree_20
  · have hf := ite_f hf hc
    refine lv_aload_n hx hb dX7_isFree_4 rfl (lv_at hl 0 rfl) ?_
    refine s_getR (k := 0) (t := 158) E hU hP sc9 (slt hsh hn 157 rfl) rfl inlX7 (Nat.le_of_ble_eq_true rfl) rfl rfl wkX7_9 (hsh.1 157 0 158 rfl) dX7_isFree_5 ?_
    refine lv_iconst (v := 0) hx hb dX7_isFree_8 rfl ?_
    refine lv_iload_n hx hb dX7_isFree_9 rfl (lv_at hl 1 rfl) ?_
    refine lv_iadd hx hb dX7_isFree_10 ?_
    refine s_iald E hU hP (slt hsh hn 158 rfl) rfl dX7_isFree_11 hf (fun y1 hf => ?_)
    refine lv_if_le (tgt := 19) hx hb dX7_isFree_12 rfl (fun hc => ?_) (fun hc => ?_)
    · have hf := ite_t hf hc
      refine lv_iconst (v := 0) hx hb dX7_isFree_19 rfl ?_
      exact s_zretR E hrt hlocks rfl hf dX7_isFree_20
    · have hf := ite_f hf hc
      refine lv_iconst (v := 1) hx hb dX7_isFree_15 rfl ?_
      refine lv_goto (tgt := 20) hx hb dX7_isFree_16 rfl ?_
      exact s_zretR E hrt hlocks rfl hf dX7_isFree_20
abbrev rmX7_keeps : Room := { frames := 0, cells := 0, slots := 0, locals := 0 }
set_option maxRecDepth 100000 in
set_option maxHeartbeats 4000000 in
theorem lX7_keeps_54 {K : Nat} {res : sV} (E : CallFix p m c cX7_keeps 2 s args wsL_law RX7) (hlocks : meth.locks = false) (hrt : meth.sig.returnType = none) (hU : sU D G s) (hsh : sSh r) (hn : 172 ≤ n) :
    ∀ (k : Nat) (x1 : Int32) (v : sV) (H : Heap) (locs : List Loc) (ls : Array Slot), fx2 (gX7_keeps_54 K) k x1 v = some res → sB D G (sA ad r n s.heap.size) s.heap ad r v n x H locs → lv_has ls 2 [(0, .ref (ad 157)), (1, .int x1)] → W p l e rmX7_keeps s m args below meth c H locs 0 0 (MQ below (sQV D G ad r n x s.heap.size res) args s 0 0 (sA ad r n s.heap.size)) (F0 m 54 ls []) := by
  have hx := E.1
  have hb := E.2.1
  have hts := E.2.2.2.2
  intro k
  induction k with
  | zero =>
    intro x1 v H locs ls hf hB hl
    exact fx2_z hf
  | succ k ih =>
    intro x1 v H locs ls hf hB hl
    have hf := (gX7_keeps_54.eq_1 ..).symm.trans hf
    refine lv_iload_n hx hb dX7_keeps_54 rfl (lv_at hl 1 rfl) ?_
    refine lv_sipush (v := 434) hx hb dX7_keeps_55 rfl ?_
    refine lv_icmp_ge (tgt := 88) hx hb dX7_keeps_58 rfl (fun hc => ?_) (fun hc => ?_)
    · have hf := ite_t hf hc
      refine lv_aload_n hx hb dX7_keeps_88 rfl (lv_at hl 0 rfl) ?_
      refine lv_dup hx hb dX7_keeps_89 rfl ?_
      refine s_getI (k := 5) E hU hB.1 sc9 (slt hsh hn 157 rfl) rfl inlX7 (Nat.le_of_ble_eq_true rfl) rfl rfl wkX7_70 dX7_keeps_90 ?_
      refine lv_iconst (v := 1) hx hb dX7_keeps_93 rfl ?_
      refine lv_iadd hx hb dX7_keeps_94 ?_
      refine s_putI (k := 5) (ty1 := .int) E hU hB sc9 (slt hsh hn 157 rfl) rfl inlX7 (Nat.le_of_ble_eq_true rfl) rfl rfl wkX7_70 rfl rfl rfl rfl dX7_keeps_95 hf (fun v1 hf H locs hB => ?_)
      exact s_vretW E hrt hlocks hB hf dX7_keeps_98
    · have hf := ite_f hf hc
      refine lv_aload_n hx hb dX7_keeps_61 rfl (lv_at hl 0 rfl) ?_
      refine s_getR (k := 3) (t := 161) E hU hB.1 sc9 (slt hsh hn 157 rfl) rfl inlX7 (Nat.le_of_ble_eq_true rfl) rfl rfl wkX7_19 (hsh.1 157 3 161 rfl) dX7_keeps_62 ?_
      refine lv_sipush (v := 434) hx hb dX7_keeps_65 rfl ?_
      refine lv_aload_n hx hb dX7_keeps_68 rfl (lv_at hl 0 rfl) ?_
      refine s_getI (k := 5) E hU hB.1 sc9 (slt hsh hn 157 rfl) rfl inlX7 (Nat.le_of_ble_eq_true rfl) rfl rfl wkX7_70 dX7_keeps_69 ?_
      refine lv_imul hx hb dX7_keeps_72 ?_
      refine lv_iload_n hx hb dX7_keeps_73 rfl (lv_at hl 1 rfl) ?_
      refine lv_iadd hx hb dX7_keeps_74 ?_
      refine lv_aload_n hx hb dX7_keeps_75 rfl (lv_at hl 0 rfl) ?_
      refine s_getR (k := 0) (t := 158) E hU hB.1 sc9 (slt hsh hn 157 rfl) rfl inlX7 (Nat.le_of_ble_eq_true rfl) rfl rfl wkX7_9 (hsh.1 157 0 158 rfl) dX7_keeps_76 ?_
      refine lv_iload_n hx hb dX7_keeps_79 rfl (lv_at hl 1 rfl) ?_
      refine s_iald E hU hB.1 (slt hsh hn 158 rfl) rfl dX7_keeps_80 hf (fun y2 hf => ?_)
      refine s_iast E hU hB (slt hsh hn 161 rfl) rfl dX7_keeps_81 hf (fun v3 hf H locs hB => ?_)
      obtain ⟨z4, ez9, hf⟩ := nm_x hf
      refine lv_iinc (v := z4) (lv' := [(1, .int z4), (0, .ref (ad 157))]) hx hb dX7_keeps_82 hl (k := 1) rfl (by rw [ez9]; rfl) (Nat.le_of_ble_eq_true rfl) rfl (fun ls hl => ?_)
      refine lv_goto (tgt := 54) hx hb dX7_keeps_85 rfl ?_
      exact ih _ _ _ _ _ hf hB (lv_sub hl [1, 0] rfl)
set_option maxRecDepth 100000 in
set_option maxHeartbeats 4000000 in
theorem lX7_keeps_13 {K : Nat} {res : sV} (E : CallFix p m c cX7_keeps 2 s args wsL_law RX7) (hlocks : meth.locks = false) (hrt : meth.sig.returnType = none) (hU : sU D G s) (hsh : sSh r) (hn : 172 ≤ n) :
    ∀ (k : Nat) (x1 : Int32) (v : sV) (H : Heap) (locs : List Loc) (ls : Array Slot), fx2 (gX7_keeps_13 K) k x1 v = some res → sB D G (sA ad r n s.heap.size) s.heap ad r v n x H locs → lv_has ls 2 [(0, .ref (ad 157)), (1, .int x1)] → W p l e rmX7_keeps s m args below meth c H locs 0 0 (MQ below (sQV D G ad r n x s.heap.size res) args s 0 0 (sA ad r n s.heap.size)) (F0 m 13 ls []) := by
  have hx := E.1
  have hb := E.2.1
  have hts := E.2.2.2.2
  intro k
  induction k with
  | zero =>
    intro x1 v H locs ls hf hB hl
    exact fx2_z hf
  | succ k ih =>
    intro x1 v H locs ls hf hB hl
    have hf := (gX7_keeps_13.eq_1 ..).symm.trans hf
    refine lv_iload_n hx hb dX7_keeps_13 rfl (lv_at hl 1 rfl) ?_
    refine lv_sipush (v := 3472) hx hb dX7_keeps_14 rfl ?_
    refine lv_icmp_ge (tgt := 42) hx hb dX7_keeps_17 rfl (fun hc => ?_) (fun hc => ?_)
    · have hf := ite_t hf hc
      refine lv_aload_n hx hb dX7_keeps_42 rfl (lv_at hl 0 rfl) ?_
      refine lv_dup hx hb dX7_keeps_43 rfl ?_
      refine s_getI (k := 5) E hU hB.1 sc9 (slt hsh hn 157 rfl) rfl inlX7 (Nat.le_of_ble_eq_true rfl) rfl rfl wkX7_70 dX7_keeps_44 ?_
      refine lv_iconst (v := 1) hx hb dX7_keeps_47 rfl ?_
      refine lv_isub hx hb dX7_keeps_48 ?_
      refine s_putI (k := 5) (ty1 := .int) E hU hB sc9 (slt hsh hn 157 rfl) rfl inlX7 (Nat.le_of_ble_eq_true rfl) rfl rfl wkX7_70 rfl rfl rfl rfl dX7_keeps_49 hf (fun v5 hf H locs hB => ?_)
      refine lv_iconst (v := 0) hx hb dX7_keeps_52 rfl ?_
      refine lv_istore_n (lv' := [(1, .int 0), (0, .ref (ad 157))]) hx hb dX7_keeps_53 rfl hl (Nat.le_of_ble_eq_true rfl) rfl (fun ls hl => ?_)
      exact lX7_keeps_54 E hlocks hrt hU hsh hn _ _ _ _ _ _ hf hB (lv_sub hl [1, 0] rfl)
    · have hf := ite_f hf hc
      refine lv_aload_n hx hb dX7_keeps_20 rfl (lv_at hl 0 rfl) ?_
      refine s_getR (k := 3) (t := 161) E hU hB.1 sc9 (slt hsh hn 157 rfl) rfl inlX7 (Nat.le_of_ble_eq_true rfl) rfl rfl wkX7_19 (hsh.1 157 3 161 rfl) dX7_keeps_21 ?_
      refine lv_iload_n hx hb dX7_keeps_24 rfl (lv_at hl 1 rfl) ?_
      refine lv_sipush (v := 434) hx hb dX7_keeps_25 rfl ?_
      refine lv_isub hx hb dX7_keeps_28 ?_
      refine lv_aload_n hx hb dX7_keeps_29 rfl (lv_at hl 0 rfl) ?_
      refine s_getR (k := 3) (t := 161) E hU hB.1 sc9 (slt hsh hn 157 rfl) rfl inlX7 (Nat.le_of_ble_eq_true rfl) rfl rfl wkX7_19 (hsh.1 157 3 161 rfl) dX7_keeps_30 ?_
      refine lv_iload_n hx hb dX7_keeps_33 rfl (lv_at hl 1 rfl) ?_
      refine s_iald E hU hB.1 (slt hsh hn 161 rfl) rfl dX7_keeps_34 hf (fun y6 hf => ?_)
      refine s_iast E hU hB (slt hsh hn 161 rfl) rfl dX7_keeps_35 hf (fun v7 hf H locs hB => ?_)
      obtain ⟨z8, ez9, hf⟩ := nm_x hf
      refine lv_iinc (v := z8) (lv' := [(1, .int z8), (0, .ref (ad 157))]) hx hb dX7_keeps_36 hl (k := 1) rfl (by rw [ez9]; rfl) (Nat.le_of_ble_eq_true rfl) rfl (fun ls hl => ?_)
      refine lv_goto (tgt := 13) hx hb dX7_keeps_39 rfl ?_
      exact ih _ _ _ _ _ hf hB (lv_sub hl [1, 0] rfl)
set_option maxRecDepth 100000 in
set_option maxHeartbeats 4000000 in
theorem mX7_keeps (l : Launch) (K : Nat) (D : va_G) (G : Nat → ClassId) (ad : Nat → Nat) (r : sR) (v : sV) (n : Nat) (x : Int64 × UInt64) (hsh : sSh r) (hn : 172 ≤ n) : sMV l yX7_keeps (.code yX7_keeps cX7_keeps 2 none :: wsL_law) rmX7_keeps D G ad r v n x [.ref (ad 157)] (fX7_keeps K v) := by
  intro sz res hf
  refine Met.ofW (cc := cX7_keeps) (maxL := 2) (ret := none) (by decide) rfl ?_
  intro p e s m args below meth c s₁ B hml hv
  obtain ⟨rfl, rfl, hU, hP, hD⟩ := hv
  have hx := B.exec
  have hb := B.bytes
  have hrt := B.returns
  have hts : ∀ w ∈ wsL_law, w.before _ s = true := fun w hw => atoms_spec (ws := .code yX7_keeps cX7_keeps 2 none :: wsL_law) B.pre w (List.mem_cons_of_mem _ hw)
  have hlocks := B.notSynchronized
  have E : CallFix p m c cX7_keeps 2 s ([.ref (ad 157)] : List Value).toArray wsL_law RX7 := ⟨hx, hb, hml, findClass_of_methodNamed B.named, hts⟩
  have hB : sB D G (sA ad r n s.heap.size) s.heap ad r v n x s.heap [] := ⟨hP, sD_self hD, va_S.rf⟩
  have hl := lv_entry ([.ref (ad 157)]) (n := 2) (Nat.le_of_ble_eq_true rfl)
  rw [lg_entry_eq]
  generalize (lg_sl ([.ref (ad 157)]) ++ List.replicate (2 - (lg_sl ([.ref (ad 157)])).length) Slot.unset).toArray = ls at hl ⊢
  have hl : lv_has ls 2 [(0, .ref (ad 157))] := hl
  have hf := (fX7_keeps.eq_1 ..).symm.trans hf
  refine lv_aload_n hx hb dX7_keeps_0 rfl (lv_at hl 0 rfl) ?_
  refine s_getI (k := 5) E hU hB.1 sc9 (slt hsh hn 157 rfl) rfl inlX7 (Nat.le_of_ble_eq_true rfl) rfl rfl wkX7_70 dX7_keeps_1 ?_
  refine lv_bipush (v := 8) hx hb dX7_keeps_4 rfl ?_
  refine lv_icmp_ne (tgt := 52) hx hb dX7_keeps_6 rfl (fun hc => ?_) (fun hc => ?_)
  · have hf := ite_f hf hc
    refine lv_iconst (v := 0) hx hb dX7_keeps_52 rfl ?_
    refine lv_istore_n (lv' := [(1, .int 0), (0, .ref (ad 157))]) hx hb dX7_keeps_53 rfl hl (Nat.le_of_ble_eq_true rfl) rfl (fun ls hl => ?_)
    exact lX7_keeps_54 E hlocks hrt hU hsh hn _ _ _ _ _ _ hf hB (lv_sub hl [1, 0] rfl)
  · have hf := ite_t hf hc
    refine lv_sipush (v := 434) hx hb dX7_keeps_9 rfl ?_
    refine lv_istore_n (lv' := [(1, .int 434), (0, .ref (ad 157))]) hx hb dX7_keeps_12 rfl hl (Nat.le_of_ble_eq_true rfl) rfl (fun ls hl => ?_)
    exact lX7_keeps_13 E hlocks hrt hU hsh hn _ _ _ _ _ _ hf hB (lv_sub hl [1, 0] rfl)
abbrev rmX7_forgets : Room := { frames := 0, cells := 0, slots := 0, locals := 0 }
set_option maxRecDepth 100000 in
set_option maxHeartbeats 4000000 in
theorem lX7_forgets_2 {K : Nat} {res : sV} (E : CallFix p m c cX7_forgets 2 s args wsL_law RX7) (hlocks : meth.locks = false) (hrt : meth.sig.returnType = none) (hU : sU D G s) (hsh : sSh r) (hn : 172 ≤ n) :
    ∀ (k : Nat) (x1 : Int32) (v : sV) (H : Heap) (locs : List Loc) (ls : Array Slot), fx2 (gX7_forgets_2 K) k x1 v = some res → sB D G (sA ad r n s.heap.size) s.heap ad r v n x H locs → lv_has ls 2 [(0, .ref (ad 157)), (1, .int x1)] → W p l e rmX7_forgets s m args below meth c H locs 0 0 (MQ below (sQV D G ad r n x s.heap.size res) args s 0 0 (sA ad r n s.heap.size)) (F0 m 2 ls []) := by
  have hx := E.1
  have hb := E.2.1
  have hts := E.2.2.2.2
  intro k
  induction k with
  | zero =>
    intro x1 v H locs ls hf hB hl
    exact fx2_z hf
  | succ k ih =>
    intro x1 v H locs ls hf hB hl
    have hf := (gX7_forgets_2.eq_1 ..).symm.trans hf
    refine lv_iload_n hx hb dX7_forgets_2 rfl (lv_at hl 1 rfl) ?_
    refine lv_sipush (v := 140) hx hb dX7_forgets_3 rfl ?_
    refine lv_icmp_ge (tgt := 22) hx hb dX7_forgets_6 rfl (fun hc => ?_) (fun hc => ?_)
    · have hf := ite_t hf hc
      exact s_vretW E hrt hlocks hB hf dX7_forgets_22
    · have hf := ite_f hf hc
      refine lv_aload_n hx hb dX7_forgets_9 rfl (lv_at hl 0 rfl) ?_
      refine s_getR (k := 9) (t := 164) E hU hB.1 sc9 (slt hsh hn 157 rfl) rfl inlX7 (Nat.le_of_ble_eq_true rfl) rfl rfl wkX7_28 (hsh.1 157 9 164 rfl) dX7_forgets_10 ?_
      refine lv_iload_n hx hb dX7_forgets_13 rfl (lv_at hl 1 rfl) ?_
      refine lv_iconst (v := 0) hx hb dX7_forgets_14 rfl ?_
      refine s_zast E hU hB (slt hsh hn 164 rfl) rfl rfl dX7_forgets_15 hf (fun v1 hf H locs hB => ?_)
      obtain ⟨z2, ez9, hf⟩ := nm_x hf
      refine lv_iinc (v := z2) (lv' := [(1, .int z2), (0, .ref (ad 157))]) hx hb dX7_forgets_16 hl (k := 1) rfl (by rw [ez9]; rfl) (Nat.le_of_ble_eq_true rfl) rfl (fun ls hl => ?_)
      refine lv_goto (tgt := 2) hx hb dX7_forgets_19 rfl ?_
      exact ih _ _ _ _ _ hf hB (lv_sub hl [1, 0] rfl)
set_option maxRecDepth 100000 in
set_option maxHeartbeats 4000000 in
theorem mX7_forgets (l : Launch) (K : Nat) (D : va_G) (G : Nat → ClassId) (ad : Nat → Nat) (r : sR) (v : sV) (n : Nat) (x : Int64 × UInt64) (hsh : sSh r) (hn : 172 ≤ n) : sMV l yX7_forgets (.code yX7_forgets cX7_forgets 2 none :: wsL_law) rmX7_forgets D G ad r v n x [.ref (ad 157)] (fX7_forgets K v) := by
  intro sz res hf
  refine Met.ofW (cc := cX7_forgets) (maxL := 2) (ret := none) (by decide) rfl ?_
  intro p e s m args below meth c s₁ B hml hv
  obtain ⟨rfl, rfl, hU, hP, hD⟩ := hv
  have hx := B.exec
  have hb := B.bytes
  have hrt := B.returns
  have hts : ∀ w ∈ wsL_law, w.before _ s = true := fun w hw => atoms_spec (ws := .code yX7_forgets cX7_forgets 2 none :: wsL_law) B.pre w (List.mem_cons_of_mem _ hw)
  have hlocks := B.notSynchronized
  have E : CallFix p m c cX7_forgets 2 s ([.ref (ad 157)] : List Value).toArray wsL_law RX7 := ⟨hx, hb, hml, findClass_of_methodNamed B.named, hts⟩
  have hB : sB D G (sA ad r n s.heap.size) s.heap ad r v n x s.heap [] := ⟨hP, sD_self hD, va_S.rf⟩
  have hl := lv_entry ([.ref (ad 157)]) (n := 2) (Nat.le_of_ble_eq_true rfl)
  rw [lg_entry_eq]
  generalize (lg_sl ([.ref (ad 157)]) ++ List.replicate (2 - (lg_sl ([.ref (ad 157)])).length) Slot.unset).toArray = ls at hl ⊢
  have hl : lv_has ls 2 [(0, .ref (ad 157))] := hl
  have hf := (fX7_forgets.eq_1 ..).symm.trans hf
  refine lv_iconst (v := 0) hx hb dX7_forgets_0 rfl ?_
  refine lv_istore_n (lv' := [(1, .int 0), (0, .ref (ad 157))]) hx hb dX7_forgets_1 rfl hl (Nat.le_of_ble_eq_true rfl) rfl (fun ls hl => ?_)
  exact lX7_forgets_2 E hlocks hrt hU hsh hn _ _ _ _ _ _ hf hB (lv_sub hl [1, 0] rfl)
abbrev rmX7_undo : Room := { frames := 1, cells := 0, slots := 0, locals := 21 }
set_option maxRecDepth 100000 in
set_option maxHeartbeats 4000000 in
theorem lX7_undo_37 {K : Nat} {res : (Int32 × sV)} (E : CallFix p m c cX7_undo 2 s args wsL_law RX7) (hlocks : meth.locks = false) (hrt : meth.sig.returnType = (some .int)) (hU : sU D G s) (hsh : sSh r) (hn : 172 ≤ n) :
    ∀ (k : Nat) (x1 : Int32) (v : sV) (H : Heap) (locs : List Loc) (ls : Array Slot), fx2 (gX7_undo_37 K) k x1 v = some res → sB D G (sA ad r n s.heap.size) s.heap ad r v n x H locs → lv_has ls 2 [(0, .ref (ad 157)), (1, .int x1)] → W p l e rmX7_undo s m args below meth c H locs 0 0 (MQ below (sQI D G ad r n x s.heap.size res) args s 0 0 (sA ad r n s.heap.size)) (F0 m 37 ls []) := by
  have hx := E.1
  have hb := E.2.1
  have hts := E.2.2.2.2
  intro k
  induction k with
  | zero =>
    intro x1 v H locs ls hf hB hl
    exact fx2_z hf
  | succ k ih =>
    intro x1 v H locs ls hf hB hl
    have hf := (gX7_undo_37.eq_1 ..).symm.trans hf
    refine lv_iload_n hx hb dX7_undo_37 rfl (lv_at hl 1 rfl) ?_
    refine lv_sipush (v := 434) hx hb dX7_undo_38 rfl ?_
    refine lv_icmp_ge (tgt := 71) hx hb dX7_undo_41 rfl (fun hc => ?_) (fun hc => ?_)
    · have hf := ite_t hf hc
      refine lv_aload_n hx hb dX7_undo_71 rfl (lv_at hl 0 rfl) ?_
      refine sc_V hB (fun q h => Or.inr h) hf (fun q9 h9 => rV_W (As := []) (rest := []) E hU hB sc9 (slt hsh hn 157 rfl) rfl ((mX7_forgets l K D G ad r _ n x hsh hn) _ _ h9) (cwGV 0 okX7_forgets wmX7_73 hts rfl rfl ⟨Nat.le_of_ble_eq_true rfl, Nat.le_of_ble_eq_true rfl⟩) rfl hl.1 (Nat.le_of_ble_eq_true rfl) dX7_undo_72 ⟨Nat.zero_le _, Nat.zero_le _⟩ rfl) (fun v3 hf H locs hB => ?_)
      refine lv_aload_n hx hb dX7_undo_75 rfl (lv_at hl 0 rfl) ?_
      refine s_getI (k := 5) E hU hB.1 sc9 (slt hsh hn 157 rfl) rfl inlX7 (Nat.le_of_ble_eq_true rfl) rfl rfl wkX7_70 dX7_undo_76 ?_
      exact s_iretW E hrt hlocks hB hf dX7_undo_79
    · have hf := ite_f hf hc
      refine lv_aload_n hx hb dX7_undo_44 rfl (lv_at hl 0 rfl) ?_
      refine s_getR (k := 0) (t := 158) E hU hB.1 sc9 (slt hsh hn 157 rfl) rfl inlX7 (Nat.le_of_ble_eq_true rfl) rfl rfl wkX7_9 (hsh.1 157 0 158 rfl) dX7_undo_45 ?_
      refine lv_iload_n hx hb dX7_undo_48 rfl (lv_at hl 1 rfl) ?_
      refine lv_aload_n hx hb dX7_undo_49 rfl (lv_at hl 0 rfl) ?_
      refine s_getR (k := 3) (t := 161) E hU hB.1 sc9 (slt hsh hn 157 rfl) rfl inlX7 (Nat.le_of_ble_eq_true rfl) rfl rfl wkX7_19 (hsh.1 157 3 161 rfl) dX7_undo_50 ?_
      refine lv_sipush (v := 434) hx hb dX7_undo_53 rfl ?_
      refine lv_aload_n hx hb dX7_undo_56 rfl (lv_at hl 0 rfl) ?_
      refine s_getI (k := 5) E hU hB.1 sc9 (slt hsh hn 157 rfl) rfl inlX7 (Nat.le_of_ble_eq_true rfl) rfl rfl wkX7_70 dX7_undo_57 ?_
      refine lv_imul hx hb dX7_undo_60 ?_
      refine lv_iload_n hx hb dX7_undo_61 rfl (lv_at hl 1 rfl) ?_
      refine lv_iadd hx hb dX7_undo_62 ?_
      refine s_iald E hU hB.1 (slt hsh hn 161 rfl) rfl dX7_undo_63 hf (fun y4 hf => ?_)
      refine s_iast E hU hB (slt hsh hn 158 rfl) rfl dX7_undo_64 hf (fun v5 hf H locs hB => ?_)
      obtain ⟨z6, ez9, hf⟩ := nm_x hf
      refine lv_iinc (v := z6) (lv' := [(1, .int z6), (0, .ref (ad 157))]) hx hb dX7_undo_65 hl (k := 1) rfl (by rw [ez9]; rfl) (Nat.le_of_ble_eq_true rfl) rfl (fun ls hl => ?_)
      refine lv_goto (tgt := 37) hx hb dX7_undo_68 rfl ?_
      exact ih _ _ _ _ _ hf hB (lv_sub hl [1, 0] rfl)
set_option maxRecDepth 100000 in
set_option maxHeartbeats 4000000 in
theorem wX7_undo_13 {K : Nat} {t1 : Int32} {res : (Int32 × sV)} (E : CallFix p m c cX7_undo 2 s args wsL_law RX7) (hlocks : meth.locks = false) (hrt : meth.sig.returnType = (some .int)) (hU : sU D G s) (hsh : sSh r) (hn : 172 ≤ n) {v : sV} {H : Heap} {locs : List Loc} (hB : sB D G (sA ad r n s.heap.size) s.heap ad r v n x H locs) {ls : Array Slot} (hf : bX7_undo_13 K t1 v = some res) (hl : lv_has ls 2 [(0, .ref (ad 157))]) :
    W p l e rmX7_undo s m args below meth c H locs 0 0 (MQ below (sQI D G ad r n x s.heap.size res) args s 0 0 (sA ad r n s.heap.size)) (F0 m 13 ls [.int t1, .ref (ad 157)]) := by
  have hx := E.1
  have hb := E.2.1
  have hts := E.2.2.2.2
  have hf := (bX7_undo_13.eq_1 ..).symm.trans hf
  refine s_putI (k := 6) (ty1 := .int) E hU hB sc9 (slt hsh hn 157 rfl) rfl inlX7 (Nat.le_of_ble_eq_true rfl) rfl rfl wkX7_47 rfl rfl rfl rfl dX7_undo_13 hf (fun v1 hf H locs hB => ?_)
  refine lv_aload_n hx hb dX7_undo_16 rfl (lv_at hl 0 rfl) ?_
  refine s_getI (k := 6) E hU hB.1 sc9 (slt hsh hn 157 rfl) rfl inlX7 (Nat.le_of_ble_eq_true rfl) rfl rfl wkX7_47 dX7_undo_17 ?_
  refine lv_if_eq (tgt := 25) hx hb dX7_undo_20 rfl (fun hc => ?_) (fun hc => ?_)
  · have hf := ite_t hf hc
    refine lv_aload_n hx hb dX7_undo_25 rfl (lv_at hl 0 rfl) ?_
    refine lv_dup hx hb dX7_undo_26 rfl ?_
    refine s_getI (k := 5) E hU hB.1 sc9 (slt hsh hn 157 rfl) rfl inlX7 (Nat.le_of_ble_eq_true rfl) rfl rfl wkX7_70 dX7_undo_27 ?_
    refine lv_iconst (v := 1) hx hb dX7_undo_30 rfl ?_
    refine lv_isub hx hb dX7_undo_31 ?_
    refine s_putI (k := 5) (ty1 := .int) E hU hB sc9 (slt hsh hn 157 rfl) rfl inlX7 (Nat.le_of_ble_eq_true rfl) rfl rfl wkX7_70 rfl rfl rfl rfl dX7_undo_32 hf (fun v2 hf H locs hB => ?_)
    refine lv_iconst (v := 0) hx hb dX7_undo_35 rfl ?_
    refine lv_istore_n (lv' := [(1, .int 0), (0, .ref (ad 157))]) hx hb dX7_undo_36 rfl hl (Nat.le_of_ble_eq_true rfl) rfl (fun ls hl => ?_)
    exact lX7_undo_37 E hlocks hrt hU hsh hn _ _ _ _ _ _ hf hB (lv_sub hl [1, 0] rfl)
  · have hf := ite_f hf hc
    refine lv_iconst (v := 0) hx hb dX7_undo_23 rfl ?_
    exact s_iretW E hrt hlocks hB hf dX7_undo_24
set_option maxRecDepth 100000 in
set_option maxHeartbeats 4000000 in
theorem mX7_undo (l : Launch) (K : Nat) (D : va_G) (G : Nat → ClassId) (ad : Nat → Nat) (r : sR) (v : sV) (n : Nat) (x : Int64 × UInt64) (hsh : sSh r) (hn : 172 ≤ n) : sMI l yX7_undo (.code yX7_undo cX7_undo 2 (some .int) :: wsL_law) rmX7_undo D G ad r v n x [.ref (ad 157)] (fX7_undo K v) := by
  intro sz res hf
  refine Met.ofW (cc := cX7_undo) (maxL := 2) (ret := (some .int)) (by decide) rfl ?_
  intro p e s m args below meth c s₁ B hml hv
  obtain ⟨rfl, rfl, hU, hP, hD⟩ := hv
  have hx := B.exec
  have hb := B.bytes
  have hrt := B.returns
  have hts : ∀ w ∈ wsL_law, w.before _ s = true := fun w hw => atoms_spec (ws := .code yX7_undo cX7_undo 2 (some .int) :: wsL_law) B.pre w (List.mem_cons_of_mem _ hw)
  have hlocks := B.notSynchronized
  have E : CallFix p m c cX7_undo 2 s ([.ref (ad 157)] : List Value).toArray wsL_law RX7 := ⟨hx, hb, hml, findClass_of_methodNamed B.named, hts⟩
  have hB : sB D G (sA ad r n s.heap.size) s.heap ad r v n x s.heap [] := ⟨hP, sD_self hD, va_S.rf⟩
  have hl := lv_entry ([.ref (ad 157)]) (n := 2) (Nat.le_of_ble_eq_true rfl)
  rw [lg_entry_eq]
  generalize (lg_sl ([.ref (ad 157)]) ++ List.replicate (2 - (lg_sl ([.ref (ad 157)])).length) Slot.unset).toArray = ls at hl ⊢
  have hl : lv_has ls 2 [(0, .ref (ad 157))] := hl
  have hf := (fX7_undo.eq_1 ..).symm.trans hf
  refine lv_aload_n hx hb dX7_undo_0 rfl (lv_at hl 0 rfl) ?_
  refine lv_aload_n hx hb dX7_undo_1 rfl (lv_at hl 0 rfl) ?_
  refine s_getI (k := 5) E hU hB.1 sc9 (slt hsh hn 157 rfl) rfl inlX7 (Nat.le_of_ble_eq_true rfl) rfl rfl wkX7_70 dX7_undo_2 ?_
  refine lv_if_ne (tgt := 12) hx hb dX7_undo_5 rfl (fun hc => ?_) (fun hc => ?_)
  · have hf := ite_f hf hc
    refine lv_iconst (v := 0) hx hb dX7_undo_12 rfl ?_
    exact wX7_undo_13 E hlocks hrt hU hsh hn hB hf (lv_sub hl [0] rfl)
  · have hf := ite_t hf hc
    refine lv_iconst (v := 1) hx hb dX7_undo_8 rfl ?_
    refine lv_goto (tgt := 13) hx hb dX7_undo_9 rfl ?_
    exact wX7_undo_13 E hlocks hrt hU hsh hn hB hf (lv_sub hl [0] rfl)
abbrev rmX7_measures : Room := { frames := 3, cells := 0, slots := 0, locals := 66 }
set_option maxRecDepth 100000 in
set_option maxHeartbeats 4000000 in
theorem wX7_measures_172 {K : Nat} {x1 : Int32} {x2 : Int32} {x3 : Int32} {x4 : Int32} {x5 : Int32} {x6 : Int32} {x7 : Int32} {k59 : Int32 → Int32 → sV → Option sV} {k118 : Int32 → Int32 → sV → Option sV} {res : sV} (E : CallFix p m c cX7_measures 9 s args wsL_law RX7) (hlocks : meth.locks = false) (hrt : meth.sig.returnType = none) (hU : sU D G s) (hsh : sSh r) (hn : 172 ≤ n) {v : sV} {H : Heap} {locs : List Loc} (hB : sB D G (sA ad r n s.heap.size) s.heap ad r v n x H locs) (ih59 : ∀ (x2 : Int32) (x3 : Int32) (v : sV) (H : Heap) (locs : List Loc) (ls : Array Slot), k59 x2 x3 v = some res → sB D G (sA ad r n s.heap.size) s.heap ad r v n x H locs → lv_has ls 9 [(0, .ref (ad 157)), (1, .int x1), (2, .int x2), (3, .int x3)] → W p l e rmX7_measures s m args below meth c H locs 0 0 (MQ below (sQV D G ad r n x s.heap.size res) args s 0 0 (sA ad r n s.heap.size)) (F0 m 59 ls [])) (ih118 : ∀ (x3 : Int32) (x6 : Int32) (v : sV) (H : Heap) (locs : List Loc) (ls : Array Slot), k118 x3 x6 v = some res → sB D G (sA ad r n s.heap.size) s.heap ad r v n x H locs → lv_has ls 9 [(0, .ref (ad 157)), (1, .int x1), (2, .int x2), (3, .int x3), (4, .int x4), (5, .int x5), (6, .int x6)] → W p l e rmX7_measures s m args below meth c H locs 0 0 (MQ below (sQV D G ad r n x s.heap.size res) args s 0 0 (sA ad r n s.heap.size)) (F0 m 118 ls [])) {ls : Array Slot} (hf : bX7_measures_172 K k59 k118 x1 x2 x3 x4 x5 x6 x7 v = some res) (hl : lv_has ls 9 [(0, .ref (ad 157)), (1, .int x1), (2, .int x2), (3, .int x3), (4, .int x4), (5, .int x5), (6, .int x6), (7, .int x7)]) :
    W p l e rmX7_measures s m args below meth c H locs 0 0 (MQ below (sQV D G ad r n x s.heap.size res) args s 0 0 (sA ad r n s.heap.size)) (F0 m 172 ls []) := by
  have hx := E.1
  have hb := E.2.1
  have hts := E.2.2.2.2
  have hf := (bX7_measures_172.eq_1 ..).symm.trans hf
  refine lv_aload_n hx hb dX7_measures_172 rfl (lv_at hl 0 rfl) ?_
  refine s_getR (k := 7) (t := 162) E hU hB.1 sc9 (slt hsh hn 157 rfl) rfl inlX7 (Nat.le_of_ble_eq_true rfl) rfl rfl wkX7_22 (hsh.1 157 7 162 rfl) dX7_measures_173 ?_
  refine lv_sipush (v := 140) hx hb dX7_measures_176 rfl ?_
  refine lv_iload_n hx hb dX7_measures_179 rfl (lv_at hl 1 rfl) ?_
  refine lv_imul hx hb dX7_measures_180 ?_
  refine lv_iload hx hb dX7_measures_181 (lv_at hl 7 rfl) ?_
  refine lv_iadd hx hb dX7_measures_183 ?_
  refine lv_iload hx hb dX7_measures_184 (lv_at hl 5 rfl) ?_
  refine s_iast E hU hB (slt hsh hn 162 rfl) rfl dX7_measures_186 hf (fun v14 hf H locs hB => ?_)
  refine lv_aload_n hx hb dX7_measures_187 rfl (lv_at hl 0 rfl) ?_
  refine s_getR (k := 10) (t := 165) E hU hB.1 sc9 (slt hsh hn 157 rfl) rfl inlX7 (Nat.le_of_ble_eq_true rfl) rfl rfl wkX7_32 (hsh.1 157 10 165 rfl) dX7_measures_188 ?_
  refine lv_iload hx hb dX7_measures_191 (lv_at hl 7 rfl) ?_
  refine s_zald E hU hB.1 (slt hsh hn 165 rfl) rfl dX7_measures_193 hf (fun y15 hf => ?_)
  refine lv_if_ne (tgt := 222) hx hb dX7_measures_194 rfl (fun hc => ?_) (fun hc => ?_)
  · have hf := ite_f hf hc
    obtain ⟨z16, ez9, hf⟩ := nm_x hf
    refine lv_iinc (v := z16) (lv' := [(6, .int z16), (0, .ref (ad 157)), (1, .int x1), (2, .int x2), (3, .int x3), (4, .int x4), (5, .int x5), (7, .int x7)]) hx hb dX7_measures_222 hl (k := 6) rfl (by rw [ez9]; rfl) (Nat.le_of_ble_eq_true rfl) rfl (fun ls hl => ?_)
    refine lv_goto (tgt := 118) hx hb dX7_measures_225 rfl ?_
    exact ih118 _ _ _ _ _ _ hf hB (lv_sub hl [1, 2, 3, 4, 5, 6, 0] rfl)
  · have hf := ite_t hf hc
    refine lv_aload_n hx hb dX7_measures_197 rfl (lv_at hl 0 rfl) ?_
    refine s_getR (k := 8) (t := 163) E hU hB.1 sc9 (slt hsh hn 157 rfl) rfl inlX7 (Nat.le_of_ble_eq_true rfl) rfl rfl wkX7_25 (hsh.1 157 8 163 rfl) dX7_measures_198 ?_
    refine lv_iload_n hx hb dX7_measures_201 rfl (lv_at hl 2 rfl) ?_
    refine lv_iload_n hx hb dX7_measures_202 rfl (lv_at hl 3 rfl) ?_
    refine lv_iadd hx hb dX7_measures_203 ?_
    refine lv_sipush (v := 140) hx hb dX7_measures_204 rfl ?_
    refine lv_irem hx hb dX7_measures_207 (by decide) ?_
    refine lv_iload hx hb dX7_measures_208 (lv_at hl 7 rfl) ?_
    refine s_iast E hU hB (slt hsh hn 163 rfl) rfl dX7_measures_210 hf (fun v17 hf H locs hB => ?_)
    refine lv_aload_n hx hb dX7_measures_211 rfl (lv_at hl 0 rfl) ?_
    refine s_getR (k := 10) (t := 165) E hU hB.1 sc9 (slt hsh hn 157 rfl) rfl inlX7 (Nat.le_of_ble_eq_true rfl) rfl rfl wkX7_32 (hsh.1 157 10 165 rfl) dX7_measures_212 ?_
    refine lv_iload hx hb dX7_measures_215 (lv_at hl 7 rfl) ?_
    refine lv_iconst (v := 1) hx hb dX7_measures_217 rfl ?_
    refine s_zast E hU hB (slt hsh hn 165 rfl) rfl rfl dX7_measures_218 hf (fun v18 hf H locs hB => ?_)
    obtain ⟨z19, ez9, hf⟩ := nm_x hf
    refine lv_iinc (v := z19) (lv' := [(3, .int z19), (0, .ref (ad 157)), (1, .int x1), (2, .int x2), (4, .int x4), (5, .int x5), (6, .int x6), (7, .int x7)]) hx hb dX7_measures_219 hl (k := 3) rfl (by rw [ez9]; rfl) (Nat.le_of_ble_eq_true rfl) rfl (fun ls hl => ?_)
    obtain ⟨z20, ez9, hf⟩ := nm_x hf
    refine lv_iinc (v := z20) (lv' := [(6, .int z20), (3, .int z19), (0, .ref (ad 157)), (1, .int x1), (2, .int x2), (4, .int x4), (5, .int x5), (7, .int x7)]) hx hb dX7_measures_222 hl (k := 6) rfl (by rw [ez9]; rfl) (Nat.le_of_ble_eq_true rfl) rfl (fun ls hl => ?_)
    refine lv_goto (tgt := 118) hx hb dX7_measures_225 rfl ?_
    exact ih118 _ _ _ _ _ _ hf hB (lv_sub hl [2, 3, 4, 1, 5, 6, 0] rfl)
set_option maxRecDepth 100000 in
set_option maxHeartbeats 4000000 in
theorem lX7_measures_118 {K : Nat} {x1 : Int32} {x2 : Int32} {x4 : Int32} {x5 : Int32} {k59 : Int32 → Int32 → sV → Option sV} {res : sV} (E : CallFix p m c cX7_measures 9 s args wsL_law RX7) (hlocks : meth.locks = false) (hrt : meth.sig.returnType = none) (hU : sU D G s) (hsh : sSh r) (hn : 172 ≤ n) (ih59 : ∀ (x2 : Int32) (x3 : Int32) (v : sV) (H : Heap) (locs : List Loc) (ls : Array Slot), k59 x2 x3 v = some res → sB D G (sA ad r n s.heap.size) s.heap ad r v n x H locs → lv_has ls 9 [(0, .ref (ad 157)), (1, .int x1), (2, .int x2), (3, .int x3)] → W p l e rmX7_measures s m args below meth c H locs 0 0 (MQ below (sQV D G ad r n x s.heap.size res) args s 0 0 (sA ad r n s.heap.size)) (F0 m 59 ls [])) :
    ∀ (k : Nat) (x3 : Int32) (x6 : Int32) (v : sV) (H : Heap) (locs : List Loc) (ls : Array Slot), fx3 (gX7_measures_118 K k59 x1 x2 x4 x5) k x3 x6 v = some res → sB D G (sA ad r n s.heap.size) s.heap ad r v n x H locs → lv_has ls 9 [(0, .ref (ad 157)), (1, .int x1), (2, .int x2), (3, .int x3), (4, .int x4), (5, .int x5), (6, .int x6)] → W p l e rmX7_measures s m args below meth c H locs 0 0 (MQ below (sQV D G ad r n x s.heap.size res) args s 0 0 (sA ad r n s.heap.size)) (F0 m 118 ls []) := by
  have hx := E.1
  have hb := E.2.1
  have hts := E.2.2.2.2
  intro k
  induction k with
  | zero =>
    intro x3 x6 v H locs ls hf hB hl
    exact fx3_z hf
  | succ k ih =>
    intro x3 x6 v H locs ls hf hB hl
    have hf := (gX7_measures_118.eq_1 ..).symm.trans hf
    refine lv_iload hx hb dX7_measures_118 (lv_at hl 6 rfl) ?_
    refine lv_iconst (v := 4) hx hb dX7_measures_120 rfl ?_
    refine lv_icmp_ge (tgt := 228) hx hb dX7_measures_121 rfl (fun hc => ?_) (fun hc => ?_)
    · have hf := ite_t hf hc
      refine lv_goto (tgt := 59) hx hb dX7_measures_228 rfl ?_
      exact ih59 _ _ _ _ _ _ hf hB (lv_sub hl [0, 1, 2, 3] rfl)
    · have hf := ite_f hf hc
      refine lv_iload hx hb dX7_measures_124 (lv_at hl 4 rfl) ?_
      refine lv_iload hx hb dX7_measures_126 (lv_at hl 6 rfl) ?_
      refine sc_R hf (rS_S (As := [.int x4, .int x6]) (rest := []) E (mX7_neighbor l x4 x6) (cwGS 2 okX7_neighbor wmX7_76 hts rfl rfl ⟨Nat.le_of_ble_eq_true rfl, Nat.le_of_ble_eq_true rfl⟩) rfl hl.1 (Nat.le_of_ble_eq_true rfl) dX7_measures_128 ⟨Nat.zero_le _, Nat.zero_le _⟩ rfl) (fun y11 hf => ?_)
      refine lv_istore (lv' := [(7, .int y11), (0, .ref (ad 157)), (1, .int x1), (2, .int x2), (3, .int x3), (4, .int x4), (5, .int x5), (6, .int x6)]) hx hb dX7_measures_131 hl (Nat.le_of_ble_eq_true rfl) rfl (fun ls hl => ?_)
      refine lv_aload_n hx hb dX7_measures_133 rfl (lv_at hl 1 rfl) ?_
      refine lv_iload hx hb dX7_measures_134 (lv_at hl 0 rfl) ?_
      refine sc_R hf (rV_R (As := [.int y11]) (rest := []) E hU hB.1 sc9 (slt hsh hn 157 rfl) rfl (mX7_isFree l D G ad r _ n x hsh hn y11) (cwGV 1 okX7_isFree wmX7_79 hts rfl rfl ⟨Nat.le_of_ble_eq_true rfl, Nat.le_of_ble_eq_true rfl⟩) rfl hl.1 (Nat.le_of_ble_eq_true rfl) dX7_measures_136 ⟨Nat.zero_le _, Nat.zero_le _⟩ rfl) (fun y12 hf => ?_)
      refine lv_if_ne (tgt := 145) hx hb dX7_measures_139 rfl (fun hc => ?_) (fun hc => ?_)
      · have hf := ite_f hf hc
        refine lv_aload_n hx hb dX7_measures_145 rfl (lv_at hl 1 rfl) ?_
        refine s_getR (k := 7) (t := 162) E hU hB.1 sc9 (slt hsh hn 157 rfl) rfl inlX7 (Nat.le_of_ble_eq_true rfl) rfl rfl wkX7_22 (hsh.1 157 7 162 rfl) dX7_measures_146 ?_
        refine lv_sipush (v := 140) hx hb dX7_measures_149 rfl ?_
        refine lv_iload_n hx hb dX7_measures_152 rfl (lv_at hl 2 rfl) ?_
        refine lv_imul hx hb dX7_measures_153 ?_
        refine lv_iload hx hb dX7_measures_154 (lv_at hl 0 rfl) ?_
        refine lv_iadd hx hb dX7_measures_156 ?_
        refine s_iald E hU hB.1 (slt hsh hn 162 rfl) rfl dX7_measures_157 hf (fun y13 hf => ?_)
        refine lv_istore (lv' := [(8, .int y13), (7, .int y11), (0, .ref (ad 157)), (1, .int x1), (2, .int x2), (3, .int x3), (4, .int x4), (5, .int x5), (6, .int x6)]) hx hb dX7_measures_158 hl (Nat.le_of_ble_eq_true rfl) rfl (fun ls hl => ?_)
        refine lv_iload hx hb dX7_measures_160 (lv_at hl 0 rfl) ?_
        refine lv_if_lt (tgt := 172) hx hb dX7_measures_162 rfl (fun hc => ?_) (fun hc => ?_)
        · have hf := ite_t hf hc
          exact wX7_measures_172 E hlocks hrt hU hsh hn hB ih59 ih hf (lv_sub hl [2, 3, 4, 5, 6, 7, 8, 1] rfl)
        · have hf := ite_f hf hc
          refine lv_iload hx hb dX7_measures_165 (lv_at hl 7 rfl) ?_
          refine lv_iload hx hb dX7_measures_167 (lv_at hl 0 rfl) ?_
          refine lv_icmp_ge (tgt := 222) hx hb dX7_measures_169 rfl (fun hc => ?_) (fun hc => ?_)
          · have hf := ite_t hf hc
            obtain ⟨z21, ez9, hf⟩ := nm_x hf
            refine lv_iinc (v := z21) (lv' := [(6, .int z21), (8, .int y13), (7, .int y11), (0, .ref (ad 157)), (1, .int x1), (2, .int x2), (3, .int x3), (4, .int x4), (5, .int x5)]) hx hb dX7_measures_222 hl (k := 8) rfl (by rw [ez9]; rfl) (Nat.le_of_ble_eq_true rfl) rfl (fun ls hl => ?_)
            refine lv_goto (tgt := 118) hx hb dX7_measures_225 rfl ?_
            exact ih _ _ _ _ _ _ hf hB (lv_sub hl [3, 4, 5, 6, 7, 8, 0] rfl)
          · have hf := ite_f hf hc
            exact wX7_measures_172 E hlocks hrt hU hsh hn hB ih59 ih hf (lv_sub hl [2, 3, 4, 5, 6, 7, 8, 1] rfl)
      · have hf := ite_t hf hc
        refine lv_goto (tgt := 222) hx hb dX7_measures_142 rfl ?_
        obtain ⟨z22, ez9, hf⟩ := nm_x hf
        refine lv_iinc (v := z22) (lv' := [(6, .int z22), (7, .int y11), (0, .ref (ad 157)), (1, .int x1), (2, .int x2), (3, .int x3), (4, .int x4), (5, .int x5)]) hx hb dX7_measures_222 hl (k := 7) rfl (by rw [ez9]; rfl) (Nat.le_of_ble_eq_true rfl) rfl (fun ls hl => ?_)
        refine lv_goto (tgt := 118) hx hb dX7_measures_225 rfl ?_
        exact ih _ _ _ _ _ _ hf hB (lv_sub hl [2, 3, 4, 5, 6, 7, 0] rfl)
set_option maxRecDepth 100000 in
set_option maxHeartbeats 4000000 in
theorem lX7_measures_59 {K : Nat} {x1 : Int32} {res : sV} (E : CallFix p m c cX7_measures 9 s args wsL_law RX7) (hlocks : meth.locks = false) (hrt : meth.sig.returnType = none) (hU : sU D G s) (hsh : sSh r) (hn : 172 ≤ n) :
    ∀ (k : Nat) (x2 : Int32) (x3 : Int32) (v : sV) (H : Heap) (locs : List Loc) (ls : Array Slot), fx3 (gX7_measures_59 K x1) k x2 x3 v = some res → sB D G (sA ad r n s.heap.size) s.heap ad r v n x H locs → lv_has ls 9 [(0, .ref (ad 157)), (1, .int x1), (2, .int x2), (3, .int x3)] → W p l e rmX7_measures s m args below meth c H locs 0 0 (MQ below (sQV D G ad r n x s.heap.size res) args s 0 0 (sA ad r n s.heap.size)) (F0 m 59 ls []) := by
  have hx := E.1
  have hb := E.2.1
  have hts := E.2.2.2.2
  intro k
  induction k with
  | zero =>
    intro x2 x3 v H locs ls hf hB hl
    exact fx3_z hf
  | succ k ih =>
    intro x2 x3 v H locs ls hf hB hl
    have hf := (gX7_measures_59.eq_1 ..).symm.trans hf
    refine lv_iload_n hx hb dX7_measures_59 rfl (lv_at hl 3 rfl) ?_
    refine lv_if_le (tgt := 231) hx hb dX7_measures_60 rfl (fun hc => ?_) (fun hc => ?_)
    · have hf := ite_t hf hc
      refine lv_aload_n hx hb dX7_measures_231 rfl (lv_at hl 0 rfl) ?_
      refine s_getR (k := 9) (t := 164) E hU hB.1 sc9 (slt hsh hn 157 rfl) rfl inlX7 (Nat.le_of_ble_eq_true rfl) rfl rfl wkX7_28 (hsh.1 157 9 164 rfl) dX7_measures_232 ?_
      refine lv_iload_n hx hb dX7_measures_235 rfl (lv_at hl 1 rfl) ?_
      refine lv_iconst (v := 1) hx hb dX7_measures_236 rfl ?_
      refine s_zast E hU hB (slt hsh hn 164 rfl) rfl rfl dX7_measures_237 hf (fun v3 hf H locs hB => ?_)
      exact s_vretW E hrt hlocks hB hf dX7_measures_238
    · have hf := ite_f hf hc
      refine lv_aload_n hx hb dX7_measures_63 rfl (lv_at hl 0 rfl) ?_
      refine s_getR (k := 8) (t := 163) E hU hB.1 sc9 (slt hsh hn 157 rfl) rfl inlX7 (Nat.le_of_ble_eq_true rfl) rfl rfl wkX7_25 (hsh.1 157 8 163 rfl) dX7_measures_64 ?_
      refine lv_iload_n hx hb dX7_measures_67 rfl (lv_at hl 2 rfl) ?_
      refine s_iald E hU hB.1 (slt hsh hn 163 rfl) rfl dX7_measures_68 hf (fun y4 hf => ?_)
      refine lv_istore (lv' := [(4, .int y4), (0, .ref (ad 157)), (1, .int x1), (2, .int x2), (3, .int x3)]) hx hb dX7_measures_69 hl (Nat.le_of_ble_eq_true rfl) rfl (fun ls hl => ?_)
      refine lv_iload_n hx hb dX7_measures_71 rfl (lv_at hl 3 rfl) ?_
      refine lv_iconst (v := 1) hx hb dX7_measures_72 rfl ?_
      refine lv_iadd hx hb dX7_measures_73 ?_
      refine lv_sipush (v := 140) hx hb dX7_measures_74 rfl ?_
      refine lv_irem hx hb dX7_measures_77 (by decide) ?_
      refine s_nm hf (fun z5 hf => ?_)
      refine lv_istore_n (lv' := [(2, .int z5), (4, .int y4), (0, .ref (ad 157)), (1, .int x1), (3, .int x3)]) hx hb dX7_measures_78 rfl hl (Nat.le_of_ble_eq_true rfl) rfl (fun ls hl => ?_)
      obtain ⟨z6, ez9, hf⟩ := nm_x hf
      refine lv_iinc (v := z6) (lv' := [(3, .int z6), (2, .int z5), (4, .int y4), (0, .ref (ad 157)), (1, .int x1)]) hx hb dX7_measures_79 hl (k := 4) rfl (by rw [ez9]; rfl) (Nat.le_of_ble_eq_true rfl) rfl (fun ls hl => ?_)
      refine lv_aload_n hx hb dX7_measures_82 rfl (lv_at hl 3 rfl) ?_
      refine s_getR (k := 10) (t := 165) E hU hB.1 sc9 (slt hsh hn 157 rfl) rfl inlX7 (Nat.le_of_ble_eq_true rfl) rfl rfl wkX7_32 (hsh.1 157 10 165 rfl) dX7_measures_83 ?_
      refine lv_iload hx hb dX7_measures_86 (lv_at hl 2 rfl) ?_
      refine lv_iconst (v := 0) hx hb dX7_measures_88 rfl ?_
      refine s_zast E hU hB (slt hsh hn 165 rfl) rfl rfl dX7_measures_89 hf (fun v7 hf H locs hB => ?_)
      refine lv_aload_n hx hb dX7_measures_90 rfl (lv_at hl 3 rfl) ?_
      refine s_getR (k := 7) (t := 162) E hU hB.1 sc9 (slt hsh hn 157 rfl) rfl inlX7 (Nat.le_of_ble_eq_true rfl) rfl rfl wkX7_22 (hsh.1 157 7 162 rfl) dX7_measures_91 ?_
      refine lv_sipush (v := 140) hx hb dX7_measures_94 rfl ?_
      refine lv_iload_n hx hb dX7_measures_97 rfl (lv_at hl 4 rfl) ?_
      refine lv_imul hx hb dX7_measures_98 ?_
      refine lv_iload hx hb dX7_measures_99 (lv_at hl 2 rfl) ?_
      refine lv_iadd hx hb dX7_measures_101 ?_
      refine s_iald E hU hB.1 (slt hsh hn 162 rfl) rfl dX7_measures_102 hf (fun y8 hf => ?_)
      refine lv_aload_n hx hb dX7_measures_103 rfl (lv_at hl 3 rfl) ?_
      refine s_getR (k := 0) (t := 158) E hU hB.1 sc9 (slt hsh hn 157 rfl) rfl inlX7 (Nat.le_of_ble_eq_true rfl) rfl rfl wkX7_9 (hsh.1 157 0 158 rfl) dX7_measures_104 ?_
      refine lv_iconst (v := 0) hx hb dX7_measures_107 rfl ?_
      refine lv_iload hx hb dX7_measures_108 (lv_at hl 2 rfl) ?_
      refine lv_iadd hx hb dX7_measures_110 ?_
      refine s_iald E hU hB.1 (slt hsh hn 158 rfl) rfl dX7_measures_111 hf (fun y9 hf => ?_)
      refine lv_iadd hx hb dX7_measures_112 ?_
      refine s_nm hf (fun z10 hf => ?_)
      refine lv_istore (lv' := [(5, .int z10), (3, .int z6), (2, .int z5), (4, .int y4), (0, .ref (ad 157)), (1, .int x1)]) hx hb dX7_measures_113 hl (Nat.le_of_ble_eq_true rfl) rfl (fun ls hl => ?_)
      refine lv_iconst (v := 0) hx hb dX7_measures_115 rfl ?_
      refine lv_istore (lv' := [(6, .int 0), (5, .int z10), (3, .int z6), (2, .int z5), (4, .int y4), (0, .ref (ad 157)), (1, .int x1)]) hx hb dX7_measures_116 hl (Nat.le_of_ble_eq_true rfl) rfl (fun ls hl => ?_)
      exact lX7_measures_118 E hlocks hrt hU hsh hn ih _ _ _ _ _ _ _ hf hB (lv_sub hl [5, 6, 3, 2, 4, 1, 0] rfl)
set_option maxRecDepth 100000 in
set_option maxHeartbeats 4000000 in
theorem lX7_measures_2 {K : Nat} {x1 : Int32} {res : sV} (E : CallFix p m c cX7_measures 9 s args wsL_law RX7) (hlocks : meth.locks = false) (hrt : meth.sig.returnType = none) (hU : sU D G s) (hsh : sSh r) (hn : 172 ≤ n) :
    ∀ (k : Nat) (x2 : Int32) (v : sV) (H : Heap) (locs : List Loc) (ls : Array Slot), fx2 (gX7_measures_2 K x1) k x2 v = some res → sB D G (sA ad r n s.heap.size) s.heap ad r v n x H locs → lv_has ls 9 [(0, .ref (ad 157)), (1, .int x1), (2, .int x2)] → W p l e rmX7_measures s m args below meth c H locs 0 0 (MQ below (sQV D G ad r n x s.heap.size res) args s 0 0 (sA ad r n s.heap.size)) (F0 m 2 ls []) := by
  have hx := E.1
  have hb := E.2.1
  have hts := E.2.2.2.2
  intro k
  induction k with
  | zero =>
    intro x2 v H locs ls hf hB hl
    exact fx2_z hf
  | succ k ih =>
    intro x2 v H locs ls hf hB hl
    have hf := (gX7_measures_2.eq_1 ..).symm.trans hf
    refine lv_iload_n hx hb dX7_measures_2 rfl (lv_at hl 2 rfl) ?_
    refine lv_sipush (v := 140) hx hb dX7_measures_3 rfl ?_
    refine lv_icmp_ge (tgt := 35) hx hb dX7_measures_6 rfl (fun hc => ?_) (fun hc => ?_)
    · have hf := ite_t hf hc
      refine lv_aload_n hx hb dX7_measures_35 rfl (lv_at hl 0 rfl) ?_
      refine s_getR (k := 7) (t := 162) E hU hB.1 sc9 (slt hsh hn 157 rfl) rfl inlX7 (Nat.le_of_ble_eq_true rfl) rfl rfl wkX7_22 (hsh.1 157 7 162 rfl) dX7_measures_36 ?_
      refine lv_sipush (v := 140) hx hb dX7_measures_39 rfl ?_
      refine lv_iload_n hx hb dX7_measures_42 rfl (lv_at hl 1 rfl) ?_
      refine lv_imul hx hb dX7_measures_43 ?_
      refine lv_iload_n hx hb dX7_measures_44 rfl (lv_at hl 1 rfl) ?_
      refine lv_iadd hx hb dX7_measures_45 ?_
      refine lv_iconst (v := 0) hx hb dX7_measures_46 rfl ?_
      refine s_iast E hU hB (slt hsh hn 162 rfl) rfl dX7_measures_47 hf (fun v1 hf H locs hB => ?_)
      refine lv_aload_n hx hb dX7_measures_48 rfl (lv_at hl 0 rfl) ?_
      refine s_getR (k := 8) (t := 163) E hU hB.1 sc9 (slt hsh hn 157 rfl) rfl inlX7 (Nat.le_of_ble_eq_true rfl) rfl rfl wkX7_25 (hsh.1 157 8 163 rfl) dX7_measures_49 ?_
      refine lv_iconst (v := 0) hx hb dX7_measures_52 rfl ?_
      refine lv_iload_n hx hb dX7_measures_53 rfl (lv_at hl 1 rfl) ?_
      refine s_iast E hU hB (slt hsh hn 163 rfl) rfl dX7_measures_54 hf (fun v2 hf H locs hB => ?_)
      refine lv_iconst (v := 0) hx hb dX7_measures_55 rfl ?_
      refine lv_istore_n (lv' := [(2, .int 0), (0, .ref (ad 157)), (1, .int x1)]) hx hb dX7_measures_56 rfl hl (Nat.le_of_ble_eq_true rfl) rfl (fun ls hl => ?_)
      refine lv_iconst (v := 1) hx hb dX7_measures_57 rfl ?_
      refine lv_istore_n (lv' := [(3, .int 1), (2, .int 0), (0, .ref (ad 157)), (1, .int x1)]) hx hb dX7_measures_58 rfl hl (Nat.le_of_ble_eq_true rfl) rfl (fun ls hl => ?_)
      exact lX7_measures_59 E hlocks hrt hU hsh hn _ _ _ _ _ _ _ hf hB (lv_sub hl [2, 3, 1, 0] rfl)
    · have hf := ite_f hf hc
      refine lv_aload_n hx hb dX7_measures_9 rfl (lv_at hl 0 rfl) ?_
      refine s_getR (k := 7) (t := 162) E hU hB.1 sc9 (slt hsh hn 157 rfl) rfl inlX7 (Nat.le_of_ble_eq_true rfl) rfl rfl wkX7_22 (hsh.1 157 7 162 rfl) dX7_measures_10 ?_
      refine lv_sipush (v := 140) hx hb dX7_measures_13 rfl ?_
      refine lv_iload_n hx hb dX7_measures_16 rfl (lv_at hl 1 rfl) ?_
      refine lv_imul hx hb dX7_measures_17 ?_
      refine lv_iload_n hx hb dX7_measures_18 rfl (lv_at hl 2 rfl) ?_
      refine lv_iadd hx hb dX7_measures_19 ?_
      refine lv_iconst (v := (-1)) hx hb dX7_measures_20 rfl ?_
      refine s_iast E hU hB (slt hsh hn 162 rfl) rfl dX7_measures_21 hf (fun v23 hf H locs hB => ?_)
      refine lv_aload_n hx hb dX7_measures_22 rfl (lv_at hl 0 rfl) ?_
      refine s_getR (k := 10) (t := 165) E hU hB.1 sc9 (slt hsh hn 157 rfl) rfl inlX7 (Nat.le_of_ble_eq_true rfl) rfl rfl wkX7_32 (hsh.1 157 10 165 rfl) dX7_measures_23 ?_
      refine lv_iload_n hx hb dX7_measures_26 rfl (lv_at hl 2 rfl) ?_
      refine lv_iconst (v := 0) hx hb dX7_measures_27 rfl ?_
      refine s_zast E hU hB (slt hsh hn 165 rfl) rfl rfl dX7_measures_28 hf (fun v24 hf H locs hB => ?_)
      obtain ⟨z25, ez9, hf⟩ := nm_x hf
      refine lv_iinc (v := z25) (lv' := [(2, .int z25), (0, .ref (ad 157)), (1, .int x1)]) hx hb dX7_measures_29 hl (k := 2) rfl (by rw [ez9]; rfl) (Nat.le_of_ble_eq_true rfl) rfl (fun ls hl => ?_)
      refine lv_goto (tgt := 2) hx hb dX7_measures_32 rfl ?_
      exact ih _ _ _ _ _ hf hB (lv_sub hl [1, 2, 0] rfl)
set_option maxRecDepth 100000 in
set_option maxHeartbeats 4000000 in
theorem mX7_measures (l : Launch) (K : Nat) (D : va_G) (G : Nat → ClassId) (ad : Nat → Nat) (r : sR) (v : sV) (n : Nat) (x : Int64 × UInt64) (hsh : sSh r) (hn : 172 ≤ n) (x1 : Int32) : sMV l yX7_measures (.code yX7_measures cX7_measures 9 none :: wsL_law) rmX7_measures D G ad r v n x [.ref (ad 157), .int x1] (fX7_measures K x1 v) := by
  intro sz res hf
  refine Met.ofW (cc := cX7_measures) (maxL := 9) (ret := none) (by decide) rfl ?_
  intro p e s m args below meth c s₁ B hml hv
  obtain ⟨rfl, rfl, hU, hP, hD⟩ := hv
  have hx := B.exec
  have hb := B.bytes
  have hrt := B.returns
  have hts : ∀ w ∈ wsL_law, w.before _ s = true := fun w hw => atoms_spec (ws := .code yX7_measures cX7_measures 9 none :: wsL_law) B.pre w (List.mem_cons_of_mem _ hw)
  have hlocks := B.notSynchronized
  have E : CallFix p m c cX7_measures 9 s ([.ref (ad 157), .int x1] : List Value).toArray wsL_law RX7 := ⟨hx, hb, hml, findClass_of_methodNamed B.named, hts⟩
  have hB : sB D G (sA ad r n s.heap.size) s.heap ad r v n x s.heap [] := ⟨hP, sD_self hD, va_S.rf⟩
  have hl := lv_entry ([.ref (ad 157), .int x1]) (n := 9) (Nat.le_of_ble_eq_true rfl)
  rw [lg_entry_eq]
  generalize (lg_sl ([.ref (ad 157), .int x1]) ++ List.replicate (9 - (lg_sl ([.ref (ad 157), .int x1])).length) Slot.unset).toArray = ls at hl ⊢
  have hl : lv_has ls 9 [(0, .ref (ad 157)), (1, .int x1)] := hl
  have hf := (fX7_measures.eq_1 ..).symm.trans hf
  refine lv_iconst (v := 0) hx hb dX7_measures_0 rfl ?_
  refine lv_istore_n (lv' := [(2, .int 0), (0, .ref (ad 157)), (1, .int x1)]) hx hb dX7_measures_1 rfl hl (Nat.le_of_ble_eq_true rfl) rfl (fun ls hl => ?_)
  exact lX7_measures_2 E hlocks hrt hU hsh hn _ _ _ _ _ _ hf hB (lv_sub hl [1, 2, 0] rfl)
abbrev rmX7_far : Room := { frames := 4, cells := 0, slots := 0, locals := 94 }
set_option maxRecDepth 100000 in
set_option maxHeartbeats 4000000 in
theorem wX7_far_14 {K : Nat} {x1 : Int32} {x2 : Int32} {res : (Int32 × sV)} (E : CallFix p m c cX7_far 3 s args wsL_law RX7) (hlocks : meth.locks = false) (hrt : meth.sig.returnType = (some .int)) (hU : sU D G s) (hsh : sSh r) (hn : 172 ≤ n) {v : sV} {H : Heap} {locs : List Loc} (hB : sB D G (sA ad r n s.heap.size) s.heap ad r v n x H locs) {ls : Array Slot} (hf : bX7_far_14 K x1 x2 v = some res) (hl : lv_has ls 3 [(0, .ref (ad 157)), (1, .int x1), (2, .int x2)]) :
    W p l e rmX7_far s m args below meth c H locs 0 0 (MQ below (sQI D G ad r n x s.heap.size res) args s 0 0 (sA ad r n s.heap.size)) (F0 m 14 ls []) := by
  have hx := E.1
  have hb := E.2.1
  have hts := E.2.2.2.2
  have hf := (bX7_far_14.eq_1 ..).symm.trans hf
  refine lv_aload_n hx hb dX7_far_14 rfl (lv_at hl 0 rfl) ?_
  refine s_getR (k := 7) (t := 162) E hU hB.1 sc9 (slt hsh hn 157 rfl) rfl inlX7 (Nat.le_of_ble_eq_true rfl) rfl rfl wkX7_22 (hsh.1 157 7 162 rfl) dX7_far_15 ?_
  refine lv_sipush (v := 140) hx hb dX7_far_18 rfl ?_
  refine lv_iload_n hx hb dX7_far_21 rfl (lv_at hl 1 rfl) ?_
  refine lv_imul hx hb dX7_far_22 ?_
  refine lv_iload_n hx hb dX7_far_23 rfl (lv_at hl 2 rfl) ?_
  refine lv_iadd hx hb dX7_far_24 ?_
  refine s_iald E hU hB.1 (slt hsh hn 162 rfl) rfl dX7_far_25 hf (fun y2 hf => ?_)
  exact s_iretW E hrt hlocks hB hf dX7_far_26
set_option maxRecDepth 100000 in
set_option maxHeartbeats 4000000 in
theorem mX7_far (l : Launch) (K : Nat) (D : va_G) (G : Nat → ClassId) (ad : Nat → Nat) (r : sR) (v : sV) (n : Nat) (x : Int64 × UInt64) (hsh : sSh r) (hn : 172 ≤ n) (x1 : Int32) (x2 : Int32) : sMI l yX7_far (.code yX7_far cX7_far 3 (some .int) :: wsL_law) rmX7_far D G ad r v n x [.ref (ad 157), .int x1, .int x2] (fX7_far K x1 x2 v) := by
  intro sz res hf
  refine Met.ofW (cc := cX7_far) (maxL := 3) (ret := (some .int)) (by decide) rfl ?_
  intro p e s m args below meth c s₁ B hml hv
  obtain ⟨rfl, rfl, hU, hP, hD⟩ := hv
  have hx := B.exec
  have hb := B.bytes
  have hrt := B.returns
  have hts : ∀ w ∈ wsL_law, w.before _ s = true := fun w hw => atoms_spec (ws := .code yX7_far cX7_far 3 (some .int) :: wsL_law) B.pre w (List.mem_cons_of_mem _ hw)
  have hlocks := B.notSynchronized
  have E : CallFix p m c cX7_far 3 s ([.ref (ad 157), .int x1, .int x2] : List Value).toArray wsL_law RX7 := ⟨hx, hb, hml, findClass_of_methodNamed B.named, hts⟩
  have hB : sB D G (sA ad r n s.heap.size) s.heap ad r v n x s.heap [] := ⟨hP, sD_self hD, va_S.rf⟩
  have hl := lv_entry ([.ref (ad 157), .int x1, .int x2]) (n := 3) (Nat.le_of_ble_eq_true rfl)
  rw [lg_entry_eq]
  generalize (lg_sl ([.ref (ad 157), .int x1, .int x2]) ++ List.replicate (3 - (lg_sl ([.ref (ad 157), .int x1, .int x2])).length) Slot.unset).toArray = ls at hl ⊢
  have hl : lv_has ls 3 [(0, .ref (ad 157)), (1, .int x1), (2, .int x2)] := hl
  have hf := (fX7_far.eq_1 ..).symm.trans hf
  refine lv_aload_n hx hb dX7_far_0 rfl (lv_at hl 0 rfl) ?_
  refine s_getR (k := 9) (t := 164) E hU hB.1 sc9 (slt hsh hn 157 rfl) rfl inlX7 (Nat.le_of_ble_eq_true rfl) rfl rfl wkX7_28 (hsh.1 157 9 164 rfl) dX7_far_1 ?_
  refine lv_iload_n hx hb dX7_far_4 rfl (lv_at hl 1 rfl) ?_
  refine s_zald E hU hB.1 (slt hsh hn 164 rfl) rfl dX7_far_5 hf (fun y1 hf => ?_)
  refine lv_if_ne (tgt := 14) hx hb dX7_far_6 rfl (fun hc => ?_) (fun hc => ?_)
  · have hf := ite_f hf hc
    exact wX7_far_14 E hlocks hrt hU hsh hn hB hf (lv_sub hl [0, 1, 2] rfl)
  · have hf := ite_t hf hc
    refine lv_aload_n hx hb dX7_far_9 rfl (lv_at hl 0 rfl) ?_
    refine lv_iload_n hx hb dX7_far_10 rfl (lv_at hl 1 rfl) ?_
    refine sc_V hB (fun q h => Or.inr h) hf (fun q9 h9 => rV_W (As := [.int x1]) (rest := []) E hU hB sc9 (slt hsh hn 157 rfl) rfl ((mX7_measures l K D G ad r _ n x hsh hn x1) _ _ h9) (cwGV 1 okX7_measures wmX7_83 hts rfl rfl ⟨Nat.le_of_ble_eq_true rfl, Nat.le_of_ble_eq_true rfl⟩) rfl hl.1 (Nat.le_of_ble_eq_true rfl) dX7_far_11 ⟨Nat.zero_le _, Nat.zero_le _⟩ rfl) (fun v3 hf H locs hB => ?_)
    exact wX7_far_14 E hlocks hrt hU hsh hn hB hf (lv_sub hl [0, 1, 2] rfl)
abbrev rmX7_flowOf : Room := { frames := 5, cells := 0, slots := 0, locals := 116 }
set_option maxRecDepth 100000 in
set_option maxHeartbeats 4000000 in
theorem lX7_flowOf_10 {K : Nat} {x1 : Int32} {x2 : Int32} {x3 : Int32} {res : (Int32 × sV)} (E : CallFix p m c cX7_flowOf 6 s args wsL_law RX7) (hlocks : meth.locks = false) (hrt : meth.sig.returnType = (some .int)) (hU : sU D G s) (hsh : sSh r) (hn : 172 ≤ n) :
    ∀ (k : Nat) (x4 : Int32) (v : sV) (H : Heap) (locs : List Loc) (ls : Array Slot), fx2 (gX7_flowOf_10 K x1 x2 x3) k x4 v = some res → sB D G (sA ad r n s.heap.size) s.heap ad r v n x H locs → lv_has ls 6 [(0, .ref (ad 157)), (1, .int x1), (2, .int x2), (3, .int x3), (4, .int x4)] → W p l e rmX7_flowOf s m args below meth c H locs 0 0 (MQ below (sQI D G ad r n x s.heap.size res) args s 0 0 (sA ad r n s.heap.size)) (F0 m 10 ls []) := by
  have hx := E.1
  have hb := E.2.1
  have hts := E.2.2.2.2
  intro k
  induction k with
  | zero =>
    intro x4 v H locs ls hf hB hl
    exact fx2_z hf
  | succ k ih =>
    intro x4 v H locs ls hf hB hl
    have hf := (gX7_flowOf_10.eq_1 ..).symm.trans hf
    refine lv_iload hx hb dX7_flowOf_10 (lv_at hl 4 rfl) ?_
    refine lv_iconst (v := 4) hx hb dX7_flowOf_12 rfl ?_
    refine lv_icmp_ge (tgt := 77) hx hb dX7_flowOf_13 rfl (fun hc => ?_) (fun hc => ?_)
    · have hf := ite_t hf hc
      refine lv_iconst (v := (-1)) hx hb dX7_flowOf_77 rfl ?_
      exact s_iretW E hrt hlocks hB hf dX7_flowOf_78
    · have hf := ite_f hf hc
      refine lv_iload_n hx hb dX7_flowOf_16 rfl (lv_at hl 3 rfl) ?_
      refine lv_if_le (tgt := 77) hx hb dX7_flowOf_17 rfl (fun hc => ?_) (fun hc => ?_)
      · have hf := ite_t hf hc
        refine lv_iconst (v := (-1)) hx hb dX7_flowOf_77 rfl ?_
        exact s_iretW E hrt hlocks hB hf dX7_flowOf_78
      · have hf := ite_f hf hc
        refine lv_iload_n hx hb dX7_flowOf_20 rfl (lv_at hl 2 rfl) ?_
        refine lv_iload hx hb dX7_flowOf_21 (lv_at hl 4 rfl) ?_
        refine sc_R hf (rS_S (As := [.int x2, .int x4]) (rest := []) E (mX7_neighbor l x2 x4) (cwGS 2 okX7_neighbor wmX7_76 hts rfl rfl ⟨Nat.le_of_ble_eq_true rfl, Nat.le_of_ble_eq_true rfl⟩) rfl hl.1 (Nat.le_of_ble_eq_true rfl) dX7_flowOf_23 ⟨Nat.zero_le _, Nat.zero_le _⟩ rfl) (fun y3 hf => ?_)
        refine lv_istore (lv' := [(5, .int y3), (0, .ref (ad 157)), (1, .int x1), (2, .int x2), (3, .int x3), (4, .int x4)]) hx hb dX7_flowOf_26 hl (Nat.le_of_ble_eq_true rfl) rfl (fun ls hl => ?_)
        refine lv_aload_n hx hb dX7_flowOf_28 rfl (lv_at hl 1 rfl) ?_
        refine lv_iload hx hb dX7_flowOf_29 (lv_at hl 0 rfl) ?_
        refine sc_R hf (rV_R (As := [.int y3]) (rest := []) E hU hB.1 sc9 (slt hsh hn 157 rfl) rfl (mX7_isFree l D G ad r _ n x hsh hn y3) (cwGV 1 okX7_isFree wmX7_79 hts rfl rfl ⟨Nat.le_of_ble_eq_true rfl, Nat.le_of_ble_eq_true rfl⟩) rfl hl.1 (Nat.le_of_ble_eq_true rfl) dX7_flowOf_31 ⟨Nat.zero_le _, Nat.zero_le _⟩ rfl) (fun y4 hf => ?_)
        refine lv_if_eq (tgt := 71) hx hb dX7_flowOf_34 rfl (fun hc => ?_) (fun hc => ?_)
        · have hf := ite_t hf hc
          obtain ⟨z5, ez9, hf⟩ := nm_x hf
          refine lv_iinc (v := z5) (lv' := [(4, .int z5), (5, .int y3), (0, .ref (ad 157)), (1, .int x1), (2, .int x2), (3, .int x3)]) hx hb dX7_flowOf_71 hl (k := 5) rfl (by rw [ez9]; rfl) (Nat.le_of_ble_eq_true rfl) rfl (fun ls hl => ?_)
          refine lv_goto (tgt := 10) hx hb dX7_flowOf_74 rfl ?_
          exact ih _ _ _ _ _ hf hB (lv_sub hl [2, 3, 4, 5, 0] rfl)
        · have hf := ite_f hf hc
          refine lv_aload_n hx hb dX7_flowOf_37 rfl (lv_at hl 1 rfl) ?_
          refine lv_iload_n hx hb dX7_flowOf_38 rfl (lv_at hl 2 rfl) ?_
          refine lv_iload hx hb dX7_flowOf_39 (lv_at hl 0 rfl) ?_
          refine sc_I hB (fun q h => Or.inr h) hf (fun q9 h9 => rV_W (As := [.int x1, .int y3]) (rest := []) E hU hB sc9 (slt hsh hn 157 rfl) rfl ((mX7_far l K D G ad r _ n x hsh hn x1 y3) _ _ h9) (cwGV 2 okX7_far wmX7_87 hts rfl rfl ⟨Nat.le_of_ble_eq_true rfl, Nat.le_of_ble_eq_true rfl⟩) rfl hl.1 (Nat.le_of_ble_eq_true rfl) dX7_flowOf_41 ⟨Nat.zero_le _, Nat.zero_le _⟩ rfl) (fun y7 v6 hf H locs hB => ?_)
          refine lv_if_lt (tgt := 71) hx hb dX7_flowOf_44 rfl (fun hc => ?_) (fun hc => ?_)
          · have hf := ite_t hf hc
            obtain ⟨z8, ez9, hf⟩ := nm_x hf
            refine lv_iinc (v := z8) (lv' := [(4, .int z8), (5, .int y3), (0, .ref (ad 157)), (1, .int x1), (2, .int x2), (3, .int x3)]) hx hb dX7_flowOf_71 hl (k := 5) rfl (by rw [ez9]; rfl) (Nat.le_of_ble_eq_true rfl) rfl (fun ls hl => ?_)
            refine lv_goto (tgt := 10) hx hb dX7_flowOf_74 rfl ?_
            exact ih _ _ _ _ _ hf hB (lv_sub hl [2, 3, 4, 5, 0] rfl)
          · have hf := ite_f hf hc
            refine lv_aload_n hx hb dX7_flowOf_47 rfl (lv_at hl 1 rfl) ?_
            refine lv_iload_n hx hb dX7_flowOf_48 rfl (lv_at hl 2 rfl) ?_
            refine lv_iload hx hb dX7_flowOf_49 (lv_at hl 0 rfl) ?_
            refine sc_I hB (fun q h => Or.inr h) hf (fun q9 h9 => rV_W (As := [.int x1, .int y3]) (rest := []) E hU hB sc9 (slt hsh hn 157 rfl) rfl ((mX7_far l K D G ad r _ n x hsh hn x1 y3) _ _ h9) (cwGV 2 okX7_far wmX7_87 hts rfl rfl ⟨Nat.le_of_ble_eq_true rfl, Nat.le_of_ble_eq_true rfl⟩) rfl hl.1 (Nat.le_of_ble_eq_true rfl) dX7_flowOf_51 ⟨Nat.zero_le _, Nat.zero_le _⟩ rfl) (fun y10 v9 hf H locs hB => ?_)
            refine lv_aload_n hx hb dX7_flowOf_54 rfl (lv_at hl 1 rfl) ?_
            refine s_getR (k := 0) (t := 158) E hU hB.1 sc9 (slt hsh hn 157 rfl) rfl inlX7 (Nat.le_of_ble_eq_true rfl) rfl rfl wkX7_9 (hsh.1 157 0 158 rfl) dX7_flowOf_55 ?_
            refine lv_iconst (v := 0) hx hb dX7_flowOf_58 rfl ?_
            refine lv_iload hx hb dX7_flowOf_59 (lv_at hl 0 rfl) ?_
            refine lv_iadd hx hb dX7_flowOf_61 ?_
            refine s_iald E hU hB.1 (slt hsh hn 158 rfl) rfl dX7_flowOf_62 hf (fun y11 hf => ?_)
            refine lv_iadd hx hb dX7_flowOf_63 ?_
            refine lv_iload_n hx hb dX7_flowOf_64 rfl (lv_at hl 4 rfl) ?_
            refine lv_icmp_ne (tgt := 71) hx hb dX7_flowOf_65 rfl (fun hc => ?_) (fun hc => ?_)
            · have hf := ite_f hf hc
              obtain ⟨z12, ez9, hf⟩ := nm_x hf
              refine lv_iinc (v := z12) (lv' := [(4, .int z12), (5, .int y3), (0, .ref (ad 157)), (1, .int x1), (2, .int x2), (3, .int x3)]) hx hb dX7_flowOf_71 hl (k := 5) rfl (by rw [ez9]; rfl) (Nat.le_of_ble_eq_true rfl) rfl (fun ls hl => ?_)
              refine lv_goto (tgt := 10) hx hb dX7_flowOf_74 rfl ?_
              exact ih _ _ _ _ _ hf hB (lv_sub hl [2, 3, 4, 5, 0] rfl)
            · have hf := ite_t hf hc
              refine lv_iload hx hb dX7_flowOf_68 (lv_at hl 5 rfl) ?_
              exact s_iretW E hrt hlocks hB hf dX7_flowOf_70
set_option maxRecDepth 100000 in
set_option maxHeartbeats 4000000 in
theorem mX7_flowOf (l : Launch) (K : Nat) (D : va_G) (G : Nat → ClassId) (ad : Nat → Nat) (r : sR) (v : sV) (n : Nat) (x : Int64 × UInt64) (hsh : sSh r) (hn : 172 ≤ n) (x1 : Int32) (x2 : Int32) : sMI l yX7_flowOf (.code yX7_flowOf cX7_flowOf 6 (some .int) :: wsL_law) rmX7_flowOf D G ad r v n x [.ref (ad 157), .int x1, .int x2] (fX7_flowOf K x1 x2 v) := by
  intro sz res hf
  refine Met.ofW (cc := cX7_flowOf) (maxL := 6) (ret := (some .int)) (by decide) rfl ?_
  intro p e s m args below meth c s₁ B hml hv
  obtain ⟨rfl, rfl, hU, hP, hD⟩ := hv
  have hx := B.exec
  have hb := B.bytes
  have hrt := B.returns
  have hts : ∀ w ∈ wsL_law, w.before _ s = true := fun w hw => atoms_spec (ws := .code yX7_flowOf cX7_flowOf 6 (some .int) :: wsL_law) B.pre w (List.mem_cons_of_mem _ hw)
  have hlocks := B.notSynchronized
  have E : CallFix p m c cX7_flowOf 6 s ([.ref (ad 157), .int x1, .int x2] : List Value).toArray wsL_law RX7 := ⟨hx, hb, hml, findClass_of_methodNamed B.named, hts⟩
  have hB : sB D G (sA ad r n s.heap.size) s.heap ad r v n x s.heap [] := ⟨hP, sD_self hD, va_S.rf⟩
  have hl := lv_entry ([.ref (ad 157), .int x1, .int x2]) (n := 6) (Nat.le_of_ble_eq_true rfl)
  rw [lg_entry_eq]
  generalize (lg_sl ([.ref (ad 157), .int x1, .int x2]) ++ List.replicate (6 - (lg_sl ([.ref (ad 157), .int x1, .int x2])).length) Slot.unset).toArray = ls at hl ⊢
  have hl : lv_has ls 6 [(0, .ref (ad 157)), (1, .int x1), (2, .int x2)] := hl
  have hf := (fX7_flowOf.eq_1 ..).symm.trans hf
  refine lv_aload_n hx hb dX7_flowOf_0 rfl (lv_at hl 0 rfl) ?_
  refine lv_iload_n hx hb dX7_flowOf_1 rfl (lv_at hl 1 rfl) ?_
  refine lv_iload_n hx hb dX7_flowOf_2 rfl (lv_at hl 2 rfl) ?_
  refine sc_I hB (fun q h => Or.inr h) hf (fun q9 h9 => rV_W (As := [.int x1, .int x2]) (rest := []) E hU hB sc9 (slt hsh hn 157 rfl) rfl ((mX7_far l K D G ad r _ n x hsh hn x1 x2) _ _ h9) (cwGV 2 okX7_far wmX7_87 hts rfl rfl ⟨Nat.le_of_ble_eq_true rfl, Nat.le_of_ble_eq_true rfl⟩) rfl hl.1 (Nat.le_of_ble_eq_true rfl) dX7_flowOf_3 ⟨Nat.zero_le _, Nat.zero_le _⟩ rfl) (fun y2 v1 hf H locs hB => ?_)
  refine lv_istore_n (lv' := [(3, .int y2), (0, .ref (ad 157)), (1, .int x1), (2, .int x2)]) hx hb dX7_flowOf_6 rfl hl (Nat.le_of_ble_eq_true rfl) rfl (fun ls hl => ?_)
  refine lv_iconst (v := 0) hx hb dX7_flowOf_7 rfl ?_
  refine lv_istore (lv' := [(4, .int 0), (3, .int y2), (0, .ref (ad 157)), (1, .int x1), (2, .int x2)]) hx hb dX7_flowOf_8 hl (Nat.le_of_ble_eq_true rfl) rfl (fun ls hl => ?_)
  exact lX7_flowOf_10 E hlocks hrt hU hsh hn _ _ _ _ _ _ hf hB (lv_sub hl [2, 3, 4, 1, 0] rfl)
abbrev rmX7_hasGoal : Room := { frames := 0, cells := 0, slots := 0, locals := 0 }
set_option maxRecDepth 100000 in
set_option maxHeartbeats 4000000 in
theorem lX7_hasGoal_2 {K : Nat} {x1 : Int32} {res : Int32} (E : CallFix p m c cX7_hasGoal 3 s args wsL_law RX7) (hlocks : meth.locks = false) (hrt : meth.sig.returnType = (some .boolean)) (hU : sU D G s) (hsh : sSh r) (hn : 172 ≤ n) {v : sV} (hP : va_P D vwCl (sWl G ad r v n x) s.heap) :
    ∀ (k : Nat) (x2 : Int32) (ls : Array Slot), fx1 (gX7_hasGoal_2 K x1 v) k x2 = some res → lv_has ls 3 [(0, .ref (ad 157)), (1, .int x1), (2, .int x2)] → W p l e rmX7_hasGoal s m args below meth c s.heap [] 0 0 (MQ below (vp_Si (fun q => q = res)) args s 0 0 (fun _ => False)) (F0 m 2 ls []) := by
  have hx := E.1
  have hb := E.2.1
  have hts := E.2.2.2.2
  intro k
  induction k with
  | zero =>
    intro x2 ls hf hl
    exact fx1_z hf
  | succ k ih =>
    intro x2 ls hf hl
    have hf := (gX7_hasGoal_2.eq_1 ..).symm.trans hf
    refine lv_iload_n hx hb dX7_hasGoal_2 rfl (lv_at hl 2 rfl) ?_
    refine lv_iconst (v := 4) hx hb dX7_hasGoal_3 rfl ?_
    refine lv_icmp_ge (tgt := 29) hx hb dX7_hasGoal_4 rfl (fun hc => ?_) (fun hc => ?_)
    · have hf := ite_t hf hc
      refine lv_iconst (v := 0) hx hb dX7_hasGoal_29 rfl ?_
      exact s_zretR E hrt hlocks rfl hf dX7_hasGoal_30
    · have hf := ite_f hf hc
      refine lv_aload_n hx hb dX7_hasGoal_7 rfl (lv_at hl 0 rfl) ?_
      refine s_getR (k := 0) (t := 158) E hU hP sc9 (slt hsh hn 157 rfl) rfl inlX7 (Nat.le_of_ble_eq_true rfl) rfl rfl wkX7_9 (hsh.1 157 0 158 rfl) dX7_hasGoal_8 ?_
      refine lv_sipush (v := 280) hx hb dX7_hasGoal_11 rfl ?_
      refine lv_iload_n hx hb dX7_hasGoal_14 rfl (lv_at hl 2 rfl) ?_
      refine lv_iadd hx hb dX7_hasGoal_15 ?_
      refine s_iald E hU hP (slt hsh hn 158 rfl) rfl dX7_hasGoal_16 hf (fun y1 hf => ?_)
      refine lv_iload_n hx hb dX7_hasGoal_17 rfl (lv_at hl 1 rfl) ?_
      refine lv_icmp_ne (tgt := 23) hx hb dX7_hasGoal_18 rfl (fun hc => ?_) (fun hc => ?_)
      · have hf := ite_f hf hc
        obtain ⟨z2, ez9, hf⟩ := nm_x hf
        refine lv_iinc (v := z2) (lv' := [(2, .int z2), (0, .ref (ad 157)), (1, .int x1)]) hx hb dX7_hasGoal_23 hl (k := 2) rfl (by rw [ez9]; rfl) (Nat.le_of_ble_eq_true rfl) rfl (fun ls hl => ?_)
        refine lv_goto (tgt := 2) hx hb dX7_hasGoal_26 rfl ?_
        exact ih _ _ hf (lv_sub hl [1, 2, 0] rfl)
      · have hf := ite_t hf hc
        refine lv_iconst (v := 1) hx hb dX7_hasGoal_21 rfl ?_
        exact s_zretR E hrt hlocks rfl hf dX7_hasGoal_22
set_option maxRecDepth 100000 in
set_option maxHeartbeats 4000000 in
theorem mX7_hasGoal (l : Launch) (K : Nat) (D : va_G) (G : Nat → ClassId) (ad : Nat → Nat) (r : sR) (v : sV) (n : Nat) (x : Int64 × UInt64) (hsh : sSh r) (hn : 172 ≤ n) (x1 : Int32) : sMR l yX7_hasGoal (.code yX7_hasGoal cX7_hasGoal 3 (some .boolean) :: wsL_law) rmX7_hasGoal D G ad r v n x [.ref (ad 157), .int x1] (fX7_hasGoal K x1 v) := by
  intro res hf
  refine Met.ofW (cc := cX7_hasGoal) (maxL := 3) (ret := (some .boolean)) (by decide) rfl ?_
  intro p e s m args below meth c s₁ B hml hv
  obtain ⟨rfl, hU, hP⟩ := hv
  have hx := B.exec
  have hb := B.bytes
  have hrt := B.returns
  have hts : ∀ w ∈ wsL_law, w.before _ s = true := fun w hw => atoms_spec (ws := .code yX7_hasGoal cX7_hasGoal 3 (some .boolean) :: wsL_law) B.pre w (List.mem_cons_of_mem _ hw)
  have hlocks := B.notSynchronized
  have E : CallFix p m c cX7_hasGoal 3 s ([.ref (ad 157), .int x1] : List Value).toArray wsL_law RX7 := ⟨hx, hb, hml, findClass_of_methodNamed B.named, hts⟩
  have hl := lv_entry ([.ref (ad 157), .int x1]) (n := 3) (Nat.le_of_ble_eq_true rfl)
  rw [lg_entry_eq]
  generalize (lg_sl ([.ref (ad 157), .int x1]) ++ List.replicate (3 - (lg_sl ([.ref (ad 157), .int x1])).length) Slot.unset).toArray = ls at hl ⊢
  have hl : lv_has ls 3 [(0, .ref (ad 157)), (1, .int x1)] := hl
  have hf := (fX7_hasGoal.eq_1 ..).symm.trans hf
  refine lv_iconst (v := 0) hx hb dX7_hasGoal_0 rfl ?_
  refine lv_istore_n (lv' := [(2, .int 0), (0, .ref (ad 157)), (1, .int x1)]) hx hb dX7_hasGoal_1 rfl hl (Nat.le_of_ble_eq_true rfl) rfl (fun ls hl => ?_)
  exact lX7_hasGoal_2 E hlocks hrt hU hsh hn hP _ _ _ hf (lv_sub hl [1, 2, 0] rfl)
abbrev rmX7_at : Room := { frames := 0, cells := 0, slots := 0, locals := 0 }
set_option maxRecDepth 100000 in
set_option maxHeartbeats 4000000 in
theorem mX7_at (l : Launch) (D : va_G) (G : Nat → ClassId) (ad : Nat → Nat) (r : sR) (v : sV) (n : Nat) (x : Int64 × UInt64) (hsh : sSh r) (hn : 172 ≤ n) (x1 : Int32) (x2 : Int32) : sMR l yX7_at (.code yX7_at cX7_at 3 (some .int) :: wsL_law) rmX7_at D G ad r v n x [.ref (ad 157), .int x1, .int x2] (fX7_at x1 x2 v) := by
  intro res hf
  refine Met.ofW (cc := cX7_at) (maxL := 3) (ret := (some .int)) (by decide) rfl ?_
  intro p e s m args below meth c s₁ B hml hv
  obtain ⟨rfl, hU, hP⟩ := hv
  have hx := B.exec
  have hb := B.bytes
  have hrt := B.returns
  have hts : ∀ w ∈ wsL_law, w.before _ s = true := fun w hw => atoms_spec (ws := .code yX7_at cX7_at 3 (some .int) :: wsL_law) B.pre w (List.mem_cons_of_mem _ hw)
  have hlocks := B.notSynchronized
  have E : CallFix p m c cX7_at 3 s ([.ref (ad 157), .int x1, .int x2] : List Value).toArray wsL_law RX7 := ⟨hx, hb, hml, findClass_of_methodNamed B.named, hts⟩
  have hl := lv_entry ([.ref (ad 157), .int x1, .int x2]) (n := 3) (Nat.le_of_ble_eq_true rfl)
  rw [lg_entry_eq]
  generalize (lg_sl ([.ref (ad 157), .int x1, .int x2]) ++ List.replicate (3 - (lg_sl ([.ref (ad 157), .int x1, .int x2])).length) Slot.unset).toArray = ls at hl ⊢
  have hl : lv_has ls 3 [(0, .ref (ad 157)), (1, .int x1), (2, .int x2)] := hl
  have hf := (fX7_at.eq_1 ..).symm.trans hf
  refine lv_aload_n hx hb dX7_at_0 rfl (lv_at hl 0 rfl) ?_
  refine s_getR (k := 0) (t := 158) E hU hP sc9 (slt hsh hn 157 rfl) rfl inlX7 (Nat.le_of_ble_eq_true rfl) rfl rfl wkX7_9 (hsh.1 157 0 158 rfl) dX7_at_1 ?_
  refine lv_sipush (v := 290) hx hb dX7_at_4 rfl ?_
  refine lv_bipush (v := 9) hx hb dX7_at_7 rfl ?_
  refine lv_iload_n hx hb dX7_at_9 rfl (lv_at hl 1 rfl) ?_
  refine lv_imul hx hb dX7_at_10 ?_
  refine lv_iadd hx hb dX7_at_11 ?_
  refine lv_iload_n hx hb dX7_at_12 rfl (lv_at hl 2 rfl) ?_
  refine lv_iadd hx hb dX7_at_13 ?_
  refine s_iald E hU hP (slt hsh hn 158 rfl) rfl dX7_at_14 hf (fun y1 hf => ?_)
  exact s_iretR E hrt hlocks hf dX7_at_15
abbrev rmX7_isAgent : Room := { frames := 1, cells := 0, slots := 0, locals := 22 }
set_option maxRecDepth 100000 in
set_option maxHeartbeats 4000000 in
theorem mX7_isAgent (l : Launch) (D : va_G) (G : Nat → ClassId) (ad : Nat → Nat) (r : sR) (v : sV) (n : Nat) (x : Int64 × UInt64) (hsh : sSh r) (hn : 172 ≤ n) (x1 : Int32) : sMR l yX7_isAgent (.code yX7_isAgent cX7_isAgent 2 (some .boolean) :: wsL_law) rmX7_isAgent D G ad r v n x [.ref (ad 157), .int x1] (fX7_isAgent x1 v) := by
  intro res hf
  refine Met.ofW (cc := cX7_isAgent) (maxL := 2) (ret := (some .boolean)) (by decide) rfl ?_
  intro p e s m args below meth c s₁ B hml hv
  obtain ⟨rfl, hU, hP⟩ := hv
  have hx := B.exec
  have hb := B.bytes
  have hrt := B.returns
  have hts : ∀ w ∈ wsL_law, w.before _ s = true := fun w hw => atoms_spec (ws := .code yX7_isAgent cX7_isAgent 2 (some .boolean) :: wsL_law) B.pre w (List.mem_cons_of_mem _ hw)
  have hlocks := B.notSynchronized
  have E : CallFix p m c cX7_isAgent 2 s ([.ref (ad 157), .int x1] : List Value).toArray wsL_law RX7 := ⟨hx, hb, hml, findClass_of_methodNamed B.named, hts⟩
  have hl := lv_entry ([.ref (ad 157), .int x1]) (n := 2) (Nat.le_of_ble_eq_true rfl)
  rw [lg_entry_eq]
  generalize (lg_sl ([.ref (ad 157), .int x1]) ++ List.replicate (2 - (lg_sl ([.ref (ad 157), .int x1])).length) Slot.unset).toArray = ls at hl ⊢
  have hl : lv_has ls 2 [(0, .ref (ad 157)), (1, .int x1)] := hl
  have hf := (fX7_isAgent.eq_1 ..).symm.trans hf
  refine lv_iload_n hx hb dX7_isAgent_0 rfl (lv_at hl 1 rfl) ?_
  refine lv_iconst (v := 0) hx hb dX7_isAgent_1 rfl ?_
  refine lv_bipush (v := 15) hx hb dX7_isAgent_2 rfl ?_
  refine sc_R hf (rS_S (As := [.int x1, .int 0, .int 15]) (rest := []) E (mX7_isIn l x1 0 15) (cwGS 3 okX7_isIn wmX7_51 hts rfl rfl ⟨Nat.le_of_ble_eq_true rfl, Nat.le_of_ble_eq_true rfl⟩) rfl hl.1 (Nat.le_of_ble_eq_true rfl) dX7_isAgent_4 ⟨Nat.zero_le _, Nat.zero_le _⟩ rfl) (fun y1 hf => ?_)
  refine lv_if_eq (tgt := 24) hx hb dX7_isAgent_7 rfl (fun hc => ?_) (fun hc => ?_)
  · have hf := ite_t hf hc
    refine lv_iconst (v := 0) hx hb dX7_isAgent_24 rfl ?_
    exact s_zretR E hrt hlocks rfl hf dX7_isAgent_25
  · have hf := ite_f hf hc
    refine lv_aload_n hx hb dX7_isAgent_10 rfl (lv_at hl 0 rfl) ?_
    refine lv_iload_n hx hb dX7_isAgent_11 rfl (lv_at hl 1 rfl) ?_
    refine lv_iconst (v := 0) hx hb dX7_isAgent_12 rfl ?_
    refine sc_R hf (rV_R (As := [.int x1, .int 0]) (rest := []) E hU hP sc9 (slt hsh hn 157 rfl) rfl (mX7_at l D G ad r _ n x hsh hn x1 0) (cwGV 2 okX7_at wmX7_105 hts rfl rfl ⟨Nat.le_of_ble_eq_true rfl, Nat.le_of_ble_eq_true rfl⟩) rfl hl.1 (Nat.le_of_ble_eq_true rfl) dX7_isAgent_13 ⟨Nat.zero_le _, Nat.zero_le _⟩ rfl) (fun y2 hf => ?_)
    refine lv_iconst (v := 1) hx hb dX7_isAgent_16 rfl ?_
    refine lv_icmp_ne (tgt := 24) hx hb dX7_isAgent_17 rfl (fun hc => ?_) (fun hc => ?_)
    · have hf := ite_f hf hc
      refine lv_iconst (v := 0) hx hb dX7_isAgent_24 rfl ?_
      exact s_zretR E hrt hlocks rfl hf dX7_isAgent_25
    · have hf := ite_t hf hc
      refine lv_iconst (v := 1) hx hb dX7_isAgent_20 rfl ?_
      refine lv_goto (tgt := 25) hx hb dX7_isAgent_21 rfl ?_
      exact s_zretR E hrt hlocks rfl hf dX7_isAgent_25
abbrev rmX7_agentOn : Room := { frames := 2, cells := 0, slots := 0, locals := 43 }
set_option maxRecDepth 100000 in
set_option maxHeartbeats 4000000 in
theorem lX7_agentOn_2 {K : Nat} {x1 : Int32} {res : Int32} (E : CallFix p m c cX7_agentOn 3 s args wsL_law RX7) (hlocks : meth.locks = false) (hrt : meth.sig.returnType = (some .int)) (hU : sU D G s) (hsh : sSh r) (hn : 172 ≤ n) {v : sV} (hP : va_P D vwCl (sWl G ad r v n x) s.heap) :
    ∀ (k : Nat) (x2 : Int32) (ls : Array Slot), fx1 (gX7_agentOn_2 K x1 v) k x2 = some res → lv_has ls 3 [(0, .ref (ad 157)), (1, .int x1), (2, .int x2)] → W p l e rmX7_agentOn s m args below meth c s.heap [] 0 0 (MQ below (vp_Si (fun q => q = res)) args s 0 0 (fun _ => False)) (F0 m 2 ls []) := by
  have hx := E.1
  have hb := E.2.1
  have hts := E.2.2.2.2
  intro k
  induction k with
  | zero =>
    intro x2 ls hf hl
    exact fx1_z hf
  | succ k ih =>
    intro x2 ls hf hl
    have hf := (gX7_agentOn_2.eq_1 ..).symm.trans hf
    refine lv_iload_n hx hb dX7_agentOn_2 rfl (lv_at hl 2 rfl) ?_
    refine lv_bipush (v := 16) hx hb dX7_agentOn_3 rfl ?_
    refine lv_icmp_ge (tgt := 34) hx hb dX7_agentOn_5 rfl (fun hc => ?_) (fun hc => ?_)
    · have hf := ite_t hf hc
      refine lv_iconst (v := (-1)) hx hb dX7_agentOn_34 rfl ?_
      exact s_iretR E hrt hlocks hf dX7_agentOn_35
    · have hf := ite_f hf hc
      refine lv_aload_n hx hb dX7_agentOn_8 rfl (lv_at hl 0 rfl) ?_
      refine lv_iload_n hx hb dX7_agentOn_9 rfl (lv_at hl 2 rfl) ?_
      refine sc_R hf (rV_R (As := [.int x2]) (rest := []) E hU hP sc9 (slt hsh hn 157 rfl) rfl (mX7_isAgent l D G ad r _ n x hsh hn x2) (cwGV 1 okX7_isAgent wmX7_102 hts rfl rfl ⟨Nat.le_of_ble_eq_true rfl, Nat.le_of_ble_eq_true rfl⟩) rfl hl.1 (Nat.le_of_ble_eq_true rfl) dX7_agentOn_10 ⟨Nat.zero_le _, Nat.zero_le _⟩ rfl) (fun y1 hf => ?_)
      refine lv_if_eq (tgt := 28) hx hb dX7_agentOn_13 rfl (fun hc => ?_) (fun hc => ?_)
      · have hf := ite_t hf hc
        obtain ⟨z2, ez9, hf⟩ := nm_x hf
        refine lv_iinc (v := z2) (lv' := [(2, .int z2), (0, .ref (ad 157)), (1, .int x1)]) hx hb dX7_agentOn_28 hl (k := 2) rfl (by rw [ez9]; rfl) (Nat.le_of_ble_eq_true rfl) rfl (fun ls hl => ?_)
        refine lv_goto (tgt := 2) hx hb dX7_agentOn_31 rfl ?_
        exact ih _ _ hf (lv_sub hl [1, 2, 0] rfl)
      · have hf := ite_f hf hc
        refine lv_aload_n hx hb dX7_agentOn_16 rfl (lv_at hl 0 rfl) ?_
        refine lv_iload_n hx hb dX7_agentOn_17 rfl (lv_at hl 2 rfl) ?_
        refine lv_iconst (v := 1) hx hb dX7_agentOn_18 rfl ?_
        refine sc_R hf (rV_R (As := [.int x2, .int 1]) (rest := []) E hU hP sc9 (slt hsh hn 157 rfl) rfl (mX7_at l D G ad r _ n x hsh hn x2 1) (cwGV 2 okX7_at wmX7_105 hts rfl rfl ⟨Nat.le_of_ble_eq_true rfl, Nat.le_of_ble_eq_true rfl⟩) rfl hl.1 (Nat.le_of_ble_eq_true rfl) dX7_agentOn_19 ⟨Nat.zero_le _, Nat.zero_le _⟩ rfl) (fun y3 hf => ?_)
        refine lv_iload_n hx hb dX7_agentOn_22 rfl (lv_at hl 1 rfl) ?_
        refine lv_icmp_ne (tgt := 28) hx hb dX7_agentOn_23 rfl (fun hc => ?_) (fun hc => ?_)
        · have hf := ite_f hf hc
          obtain ⟨z4, ez9, hf⟩ := nm_x hf
          refine lv_iinc (v := z4) (lv' := [(2, .int z4), (0, .ref (ad 157)), (1, .int x1)]) hx hb dX7_agentOn_28 hl (k := 2) rfl (by rw [ez9]; rfl) (Nat.le_of_ble_eq_true rfl) rfl (fun ls hl => ?_)
          refine lv_goto (tgt := 2) hx hb dX7_agentOn_31 rfl ?_
          exact ih _ _ hf (lv_sub hl [1, 2, 0] rfl)
        · have hf := ite_t hf hc
          refine lv_iload_n hx hb dX7_agentOn_26 rfl (lv_at hl 2 rfl) ?_
          exact s_iretR E hrt hlocks hf dX7_agentOn_27
set_option maxRecDepth 100000 in
set_option maxHeartbeats 4000000 in
theorem mX7_agentOn (l : Launch) (K : Nat) (D : va_G) (G : Nat → ClassId) (ad : Nat → Nat) (r : sR) (v : sV) (n : Nat) (x : Int64 × UInt64) (hsh : sSh r) (hn : 172 ≤ n) (x1 : Int32) : sMR l yX7_agentOn (.code yX7_agentOn cX7_agentOn 3 (some .int) :: wsL_law) rmX7_agentOn D G ad r v n x [.ref (ad 157), .int x1] (fX7_agentOn K x1 v) := by
  intro res hf
  refine Met.ofW (cc := cX7_agentOn) (maxL := 3) (ret := (some .int)) (by decide) rfl ?_
  intro p e s m args below meth c s₁ B hml hv
  obtain ⟨rfl, hU, hP⟩ := hv
  have hx := B.exec
  have hb := B.bytes
  have hrt := B.returns
  have hts : ∀ w ∈ wsL_law, w.before _ s = true := fun w hw => atoms_spec (ws := .code yX7_agentOn cX7_agentOn 3 (some .int) :: wsL_law) B.pre w (List.mem_cons_of_mem _ hw)
  have hlocks := B.notSynchronized
  have E : CallFix p m c cX7_agentOn 3 s ([.ref (ad 157), .int x1] : List Value).toArray wsL_law RX7 := ⟨hx, hb, hml, findClass_of_methodNamed B.named, hts⟩
  have hl := lv_entry ([.ref (ad 157), .int x1]) (n := 3) (Nat.le_of_ble_eq_true rfl)
  rw [lg_entry_eq]
  generalize (lg_sl ([.ref (ad 157), .int x1]) ++ List.replicate (3 - (lg_sl ([.ref (ad 157), .int x1])).length) Slot.unset).toArray = ls at hl ⊢
  have hl : lv_has ls 3 [(0, .ref (ad 157)), (1, .int x1)] := hl
  have hf := (fX7_agentOn.eq_1 ..).symm.trans hf
  refine lv_iconst (v := 0) hx hb dX7_agentOn_0 rfl ?_
  refine lv_istore_n (lv' := [(2, .int 0), (0, .ref (ad 157)), (1, .int x1)]) hx hb dX7_agentOn_1 rfl hl (Nat.le_of_ble_eq_true rfl) rfl (fun ls hl => ?_)
  exact lX7_agentOn_2 E hlocks hrt hU hsh hn hP _ _ _ hf (lv_sub hl [1, 2, 0] rfl)
abbrev rmX7_setCell : Room := { frames := 3, cells := 0, slots := 0, locals := 65 }
set_option maxRecDepth 100000 in
set_option maxHeartbeats 4000000 in
theorem wX7_setCell_75 {K : Nat} {x3 : Int32} {x4 : Int32} {t1 : Int32} {res : (Int32 × sV)} (E : CallFix p m c cX7_setCell 6 s args wsL_law RX7) (hlocks : meth.locks = false) (hrt : meth.sig.returnType = (some .int)) (hU : sU D G s) (hsh : sSh r) (hn : 172 ≤ n) {v : sV} {H : Heap} {locs : List Loc} (hB : sB D G (sA ad r n s.heap.size) s.heap ad r v n x H locs) {ls : Array Slot} (hf : bX7_setCell_75 K x3 x4 t1 v = some res) (hl : lv_has ls 6 [(0, .ref (ad 157)), (3, .int x3), (4, .int x4)]) :
    W p l e rmX7_setCell s m args below meth c H locs 0 0 (MQ below (sQI D G ad r n x s.heap.size res) args s 0 0 (sA ad r n s.heap.size)) (F0 m 75 ls [.int t1, .ref (ad 157)]) := by
  have hx := E.1
  have hb := E.2.1
  have hts := E.2.2.2.2
  have hf := (bX7_setCell_75.eq_1 ..).symm.trans hf
  refine s_putI (k := 6) (ty1 := .int) E hU hB sc9 (slt hsh hn 157 rfl) rfl inlX7 (Nat.le_of_ble_eq_true rfl) rfl rfl wkX7_47 rfl rfl rfl rfl dX7_setCell_75 hf (fun v5 hf H locs hB => ?_)
  refine lv_aload_n hx hb dX7_setCell_78 rfl (lv_at hl 0 rfl) ?_
  refine s_getI (k := 6) E hU hB.1 sc9 (slt hsh hn 157 rfl) rfl inlX7 (Nat.le_of_ble_eq_true rfl) rfl rfl wkX7_47 dX7_setCell_79 ?_
  refine lv_if_eq (tgt := 87) hx hb dX7_setCell_82 rfl (fun hc => ?_) (fun hc => ?_)
  · have hf := ite_t hf hc
    refine lv_aload_n hx hb dX7_setCell_87 rfl (lv_at hl 0 rfl) ?_
    refine sc_V hB (fun q h => Or.inr h) hf (fun q9 h9 => rV_W (As := []) (rest := []) E hU hB sc9 (slt hsh hn 157 rfl) rfl ((mX7_keeps l K D G ad r _ n x hsh hn) _ _ h9) (cwGV 0 okX7_keeps wmX7_96 hts rfl rfl ⟨Nat.le_of_ble_eq_true rfl, Nat.le_of_ble_eq_true rfl⟩) rfl hl.1 (Nat.le_of_ble_eq_true rfl) dX7_setCell_88 ⟨Nat.zero_le _, Nat.zero_le _⟩ rfl) (fun v6 hf H locs hB => ?_)
    refine lv_aload_n hx hb dX7_setCell_91 rfl (lv_at hl 0 rfl) ?_
    refine s_getR (k := 0) (t := 158) E hU hB.1 sc9 (slt hsh hn 157 rfl) rfl inlX7 (Nat.le_of_ble_eq_true rfl) rfl rfl wkX7_9 (hsh.1 157 0 158 rfl) dX7_setCell_92 ?_
    refine lv_iconst (v := 0) hx hb dX7_setCell_95 rfl ?_
    refine lv_iload hx hb dX7_setCell_96 (lv_at hl 2 rfl) ?_
    refine lv_iadd hx hb dX7_setCell_98 ?_
    refine s_iald E hU hB.1 (slt hsh hn 158 rfl) rfl dX7_setCell_99 hf (fun y7 hf => ?_)
    refine lv_istore (lv' := [(5, .int y7), (0, .ref (ad 157)), (3, .int x3), (4, .int x4)]) hx hb dX7_setCell_100 hl (Nat.le_of_ble_eq_true rfl) rfl (fun ls hl => ?_)
    refine lv_aload_n hx hb dX7_setCell_102 rfl (lv_at hl 1 rfl) ?_
    refine s_getR (k := 0) (t := 158) E hU hB.1 sc9 (slt hsh hn 157 rfl) rfl inlX7 (Nat.le_of_ble_eq_true rfl) rfl rfl wkX7_9 (hsh.1 157 0 158 rfl) dX7_setCell_103 ?_
    refine lv_iconst (v := 0) hx hb dX7_setCell_106 rfl ?_
    refine lv_iload hx hb dX7_setCell_107 (lv_at hl 3 rfl) ?_
    refine lv_iadd hx hb dX7_setCell_109 ?_
    refine lv_iload_n hx hb dX7_setCell_110 rfl (lv_at hl 2 rfl) ?_
    refine s_iast E hU hB (slt hsh hn 158 rfl) rfl dX7_setCell_111 hf (fun v8 hf H locs hB => ?_)
    refine lv_aload_n hx hb dX7_setCell_112 rfl (lv_at hl 1 rfl) ?_
    refine sc_V hB (fun q h => Or.inr h) hf (fun q9 h9 => rV_W (As := []) (rest := []) E hU hB sc9 (slt hsh hn 157 rfl) rfl ((mX7_forgets l K D G ad r _ n x hsh hn) _ _ h9) (cwGV 0 okX7_forgets wmX7_73 hts rfl rfl ⟨Nat.le_of_ble_eq_true rfl, Nat.le_of_ble_eq_true rfl⟩) rfl hl.1 (Nat.le_of_ble_eq_true rfl) dX7_setCell_113 ⟨Nat.zero_le _, Nat.zero_le _⟩ rfl) (fun v9 hf H locs hB => ?_)
    refine lv_iload hx hb dX7_setCell_116 (lv_at hl 0 rfl) ?_
    exact s_iretW E hrt hlocks hB hf dX7_setCell_118
  · have hf := ite_f hf hc
    refine lv_iconst (v := 0) hx hb dX7_setCell_85 rfl ?_
    exact s_iretW E hrt hlocks hB hf dX7_setCell_86
set_option maxRecDepth 100000 in
set_option maxHeartbeats 4000000 in
theorem wX7_setCell_28 {K : Nat} {x1 : Int32} {x2 : Int32} {x3 : Int32} {t1 : Int32} {res : (Int32 × sV)} (E : CallFix p m c cX7_setCell 6 s args wsL_law RX7) (hlocks : meth.locks = false) (hrt : meth.sig.returnType = (some .int)) (hU : sU D G s) (hsh : sSh r) (hn : 172 ≤ n) {v : sV} {H : Heap} {locs : List Loc} (hB : sB D G (sA ad r n s.heap.size) s.heap ad r v n x H locs) {ls : Array Slot} (hf : bX7_setCell_28 K x1 x2 x3 t1 v = some res) (hl : lv_has ls 6 [(0, .ref (ad 157)), (1, .int x1), (2, .int x2), (3, .int x3)]) :
    W p l e rmX7_setCell s m args below meth c H locs 0 0 (MQ below (sQI D G ad r n x s.heap.size res) args s 0 0 (sA ad r n s.heap.size)) (F0 m 28 ls [.int t1, .ref (ad 157)]) := by
  have hx := E.1
  have hb := E.2.1
  have hts := E.2.2.2.2
  have hf := (bX7_setCell_28.eq_1 ..).symm.trans hf
  refine s_putI (k := 6) (ty1 := .int) E hU hB sc9 (slt hsh hn 157 rfl) rfl inlX7 (Nat.le_of_ble_eq_true rfl) rfl rfl wkX7_47 rfl rfl rfl rfl dX7_setCell_28 hf (fun v3 hf H locs hB => ?_)
  refine lv_aload_n hx hb dX7_setCell_31 rfl (lv_at hl 0 rfl) ?_
  refine s_getI (k := 6) E hU hB.1 sc9 (slt hsh hn 157 rfl) rfl inlX7 (Nat.le_of_ble_eq_true rfl) rfl rfl wkX7_47 dX7_setCell_32 ?_
  refine lv_if_eq (tgt := 40) hx hb dX7_setCell_35 rfl (fun hc => ?_) (fun hc => ?_)
  · have hf := ite_t hf hc
    refine lv_iload_n hx hb dX7_setCell_40 rfl (lv_at hl 1 rfl) ?_
    refine lv_iload_n hx hb dX7_setCell_41 rfl (lv_at hl 2 rfl) ?_
    refine sc_R hf (rS_S (As := [.int x1, .int x2]) (rest := []) E (mX7_cellAt l x1 x2) (cwGS 2 okX7_cellAt wmX7_66 hts rfl rfl ⟨Nat.le_of_ble_eq_true rfl, Nat.le_of_ble_eq_true rfl⟩) rfl hl.1 (Nat.le_of_ble_eq_true rfl) dX7_setCell_42 ⟨Nat.zero_le _, Nat.zero_le _⟩ rfl) (fun y4 hf => ?_)
    refine lv_istore (lv' := [(4, .int y4), (0, .ref (ad 157)), (1, .int x1), (2, .int x2), (3, .int x3)]) hx hb dX7_setCell_45 hl (Nat.le_of_ble_eq_true rfl) rfl (fun ls hl => ?_)
    refine lv_aload_n hx hb dX7_setCell_47 rfl (lv_at hl 1 rfl) ?_
    refine lv_iload_n hx hb dX7_setCell_48 rfl (lv_at hl 4 rfl) ?_
    refine lv_if_ne (tgt := 74) hx hb dX7_setCell_49 rfl (fun hc => ?_) (fun hc => ?_)
    · have hf := ite_f hf hc
      refine lv_iconst (v := 0) hx hb dX7_setCell_74 rfl ?_
      exact wX7_setCell_75 E hlocks hrt hU hsh hn hB hf (lv_sub hl [1, 4, 0] rfl)
    · have hf := ite_t hf hc
      refine lv_aload_n hx hb dX7_setCell_52 rfl (lv_at hl 1 rfl) ?_
      refine lv_iload hx hb dX7_setCell_53 (lv_at hl 0 rfl) ?_
      refine sc_R hf (rV_R (As := [.int y4]) (rest := [.ref (ad 157)]) E hU hB.1 sc9 (slt hsh hn 157 rfl) rfl (mX7_hasGoal l K D G ad r _ n x hsh hn y4) (cwGV 1 okX7_hasGoal wmX7_90 hts rfl rfl ⟨Nat.le_of_ble_eq_true rfl, Nat.le_of_ble_eq_true rfl⟩) rfl hl.1 (Nat.le_of_ble_eq_true rfl) dX7_setCell_55 ⟨Nat.zero_le _, Nat.zero_le _⟩ rfl) (fun y10 hf => ?_)
      refine lv_if_ne (tgt := 70) hx hb dX7_setCell_58 rfl (fun hc => ?_) (fun hc => ?_)
      · have hf := ite_f hf hc
        refine lv_iconst (v := 3) hx hb dX7_setCell_70 rfl ?_
        refine lv_goto (tgt := 75) hx hb dX7_setCell_71 rfl ?_
        exact wX7_setCell_75 E hlocks hrt hU hsh hn hB hf (lv_sub hl [1, 4, 0] rfl)
      · have hf := ite_t hf hc
        refine lv_aload_n hx hb dX7_setCell_61 rfl (lv_at hl 1 rfl) ?_
        refine lv_iload hx hb dX7_setCell_62 (lv_at hl 0 rfl) ?_
        refine sc_R hf (rV_R (As := [.int y4]) (rest := [.ref (ad 157)]) E hU hB.1 sc9 (slt hsh hn 157 rfl) rfl (mX7_agentOn l K D G ad r _ n x hsh hn y4) (cwGV 1 okX7_agentOn wmX7_93 hts rfl rfl ⟨Nat.le_of_ble_eq_true rfl, Nat.le_of_ble_eq_true rfl⟩) rfl hl.1 (Nat.le_of_ble_eq_true rfl) dX7_setCell_64 ⟨Nat.zero_le _, Nat.zero_le _⟩ rfl) (fun y11 hf => ?_)
        refine lv_if_lt (tgt := 74) hx hb dX7_setCell_67 rfl (fun hc => ?_) (fun hc => ?_)
        · have hf := ite_t hf hc
          refine lv_iconst (v := 0) hx hb dX7_setCell_74 rfl ?_
          exact wX7_setCell_75 E hlocks hrt hU hsh hn hB hf (lv_sub hl [1, 4, 0] rfl)
        · have hf := ite_f hf hc
          refine lv_iconst (v := 3) hx hb dX7_setCell_70 rfl ?_
          refine lv_goto (tgt := 75) hx hb dX7_setCell_71 rfl ?_
          exact wX7_setCell_75 E hlocks hrt hU hsh hn hB hf (lv_sub hl [1, 4, 0] rfl)
  · have hf := ite_f hf hc
    refine lv_iconst (v := 0) hx hb dX7_setCell_38 rfl ?_
    exact s_iretW E hrt hlocks hB hf dX7_setCell_39
set_option maxRecDepth 100000 in
set_option maxHeartbeats 4000000 in
theorem mX7_setCell (l : Launch) (K : Nat) (D : va_G) (G : Nat → ClassId) (ad : Nat → Nat) (r : sR) (v : sV) (n : Nat) (x : Int64 × UInt64) (hsh : sSh r) (hn : 172 ≤ n) (x1 : Int32) (x2 : Int32) (x3 : Int32) : sMI l yX7_setCell (.code yX7_setCell cX7_setCell 6 (some .int) :: wsL_law) rmX7_setCell D G ad r v n x [.ref (ad 157), .int x1, .int x2, .int x3] (fX7_setCell K x1 x2 x3 v) := by
  intro sz res hf
  refine Met.ofW (cc := cX7_setCell) (maxL := 6) (ret := (some .int)) (by decide) rfl ?_
  intro p e s m args below meth c s₁ B hml hv
  obtain ⟨rfl, rfl, hU, hP, hD⟩ := hv
  have hx := B.exec
  have hb := B.bytes
  have hrt := B.returns
  have hts : ∀ w ∈ wsL_law, w.before _ s = true := fun w hw => atoms_spec (ws := .code yX7_setCell cX7_setCell 6 (some .int) :: wsL_law) B.pre w (List.mem_cons_of_mem _ hw)
  have hlocks := B.notSynchronized
  have E : CallFix p m c cX7_setCell 6 s ([.ref (ad 157), .int x1, .int x2, .int x3] : List Value).toArray wsL_law RX7 := ⟨hx, hb, hml, findClass_of_methodNamed B.named, hts⟩
  have hB : sB D G (sA ad r n s.heap.size) s.heap ad r v n x s.heap [] := ⟨hP, sD_self hD, va_S.rf⟩
  have hl := lv_entry ([.ref (ad 157), .int x1, .int x2, .int x3]) (n := 6) (Nat.le_of_ble_eq_true rfl)
  rw [lg_entry_eq]
  generalize (lg_sl ([.ref (ad 157), .int x1, .int x2, .int x3]) ++ List.replicate (6 - (lg_sl ([.ref (ad 157), .int x1, .int x2, .int x3])).length) Slot.unset).toArray = ls at hl ⊢
  have hl : lv_has ls 6 [(0, .ref (ad 157)), (1, .int x1), (2, .int x2), (3, .int x3)] := hl
  have hf := (fX7_setCell.eq_1 ..).symm.trans hf
  refine lv_aload_n hx hb dX7_setCell_0 rfl (lv_at hl 0 rfl) ?_
  refine lv_iload_n hx hb dX7_setCell_1 rfl (lv_at hl 1 rfl) ?_
  refine lv_iload_n hx hb dX7_setCell_2 rfl (lv_at hl 2 rfl) ?_
  refine sc_R hf (rS_S (As := [.int x1, .int x2]) (rest := [.ref (ad 157)]) E (mX7_isCell l x1 x2) (cwGS 2 okX7_isCell wmX7_62 hts rfl rfl ⟨Nat.le_of_ble_eq_true rfl, Nat.le_of_ble_eq_true rfl⟩) rfl hl.1 (Nat.le_of_ble_eq_true rfl) dX7_setCell_3 ⟨Nat.zero_le _, Nat.zero_le _⟩ rfl) (fun y1 hf => ?_)
  refine lv_if_ne (tgt := 13) hx hb dX7_setCell_6 rfl (fun hc => ?_) (fun hc => ?_)
  · have hf := ite_f hf hc
    refine lv_iload_n hx hb dX7_setCell_13 rfl (lv_at hl 3 rfl) ?_
    refine lv_iconst (v := 0) hx hb dX7_setCell_14 rfl ?_
    refine lv_bipush (v := 9) hx hb dX7_setCell_15 rfl ?_
    refine sc_R hf (rS_S (As := [.int x3, .int 0, .int 9]) (rest := [.ref (ad 157)]) E (mX7_isIn l x3 0 9) (cwGS 3 okX7_isIn wmX7_51 hts rfl rfl ⟨Nat.le_of_ble_eq_true rfl, Nat.le_of_ble_eq_true rfl⟩) rfl hl.1 (Nat.le_of_ble_eq_true rfl) dX7_setCell_17 ⟨Nat.zero_le _, Nat.zero_le _⟩ rfl) (fun y2 hf => ?_)
    refine lv_if_ne (tgt := 27) hx hb dX7_setCell_20 rfl (fun hc => ?_) (fun hc => ?_)
    · have hf := ite_f hf hc
      refine lv_iconst (v := 0) hx hb dX7_setCell_27 rfl ?_
      exact wX7_setCell_28 E hlocks hrt hU hsh hn hB hf (lv_sub hl [0, 1, 2, 3] rfl)
    · have hf := ite_t hf hc
      refine lv_iconst (v := 2) hx hb dX7_setCell_23 rfl ?_
      refine lv_goto (tgt := 28) hx hb dX7_setCell_24 rfl ?_
      exact wX7_setCell_28 E hlocks hrt hU hsh hn hB hf (lv_sub hl [0, 1, 2, 3] rfl)
  · have hf := ite_t hf hc
    refine lv_iconst (v := 1) hx hb dX7_setCell_9 rfl ?_
    refine lv_goto (tgt := 28) hx hb dX7_setCell_10 rfl ?_
    exact wX7_setCell_28 E hlocks hrt hU hsh hn hB hf (lv_sub hl [0, 1, 2, 3] rfl)
abbrev rmX7_cell : Room := { frames := 3, cells := 0, slots := 0, locals := 65 }
set_option maxRecDepth 100000 in
set_option maxHeartbeats 4000000 in
theorem wX7_cell_82 {K : Nat} {x5 : Int32} {res : (Int32 × sV)} (E : CallFix p m c cX7_cell 6 s args wsL_law RX7) (hlocks : meth.locks = false) (hrt : meth.sig.returnType = (some .int)) (hU : sU D G s) (hsh : sSh r) (hn : 172 ≤ n) {v : sV} {H : Heap} {locs : List Loc} (hB : sB D G (sA ad r n s.heap.size) s.heap ad r v n x H locs) {ls : Array Slot} (hf : bX7_cell_82 K x5 v = some res) (hl : lv_has ls 6 [(5, .int x5)]) :
    W p l e rmX7_cell s m args below meth c H locs 0 0 (MQ below (sQI D G ad r n x s.heap.size res) args s 0 0 (sA ad r n s.heap.size)) (F0 m 82 ls []) := by
  have hx := E.1
  have hb := E.2.1
  have hts := E.2.2.2.2
  have hf := (bX7_cell_82.eq_1 ..).symm.trans hf
  refine lv_iload hx hb dX7_cell_82 (lv_at hl 0 rfl) ?_
  refine lv_iconst (v := 4) hx hb dX7_cell_84 rfl ?_
  refine lv_icmp_ge (tgt := 93) hx hb dX7_cell_85 rfl (fun hc => ?_) (fun hc => ?_)
  · have hf := ite_t hf hc
    refine lv_iconst (v := (-1)) hx hb dX7_cell_93 rfl ?_
    exact s_iretW E hrt hlocks hB hf dX7_cell_94
  · have hf := ite_f hf hc
    refine lv_iload hx hb dX7_cell_88 (lv_at hl 0 rfl) ?_
    refine lv_goto (tgt := 94) hx hb dX7_cell_90 rfl ?_
    exact s_iretW E hrt hlocks hB hf dX7_cell_94
set_option maxRecDepth 100000 in
set_option maxHeartbeats 4000000 in
theorem lX7_cell_54 {K : Nat} {x4 : Int32} {res : (Int32 × sV)} (E : CallFix p m c cX7_cell 6 s args wsL_law RX7) (hlocks : meth.locks = false) (hrt : meth.sig.returnType = (some .int)) (hU : sU D G s) (hsh : sSh r) (hn : 172 ≤ n) {v : sV} {H : Heap} {locs : List Loc} (hB : sB D G (sA ad r n s.heap.size) s.heap ad r v n x H locs) :
    ∀ (k : Nat) (x5 : Int32) (ls : Array Slot), fx1 (gX7_cell_54 K x4 v) k x5 = some res → lv_has ls 6 [(0, .ref (ad 157)), (4, .int x4), (5, .int x5)] → W p l e rmX7_cell s m args below meth c H locs 0 0 (MQ below (sQI D G ad r n x s.heap.size res) args s 0 0 (sA ad r n s.heap.size)) (F0 m 54 ls []) := by
  have hx := E.1
  have hb := E.2.1
  have hts := E.2.2.2.2
  intro k
  induction k with
  | zero =>
    intro x5 ls hf hl
    exact fx1_z hf
  | succ k ih =>
    intro x5 ls hf hl
    have hf := (gX7_cell_54.eq_1 ..).symm.trans hf
    refine lv_iload hx hb dX7_cell_54 (lv_at hl 2 rfl) ?_
    refine lv_iconst (v := 4) hx hb dX7_cell_56 rfl ?_
    refine lv_icmp_ge (tgt := 82) hx hb dX7_cell_57 rfl (fun hc => ?_) (fun hc => ?_)
    · have hf := ite_t hf hc
      exact wX7_cell_82 E hlocks hrt hU hsh hn hB hf (lv_sub hl [2] rfl)
    · have hf := ite_f hf hc
      refine lv_aload_n hx hb dX7_cell_60 rfl (lv_at hl 0 rfl) ?_
      refine s_getR (k := 0) (t := 158) E hU hB.1 sc9 (slt hsh hn 157 rfl) rfl inlX7 (Nat.le_of_ble_eq_true rfl) rfl rfl wkX7_9 (hsh.1 157 0 158 rfl) dX7_cell_61 ?_
      refine lv_sipush (v := 280) hx hb dX7_cell_64 rfl ?_
      refine lv_iload hx hb dX7_cell_67 (lv_at hl 2 rfl) ?_
      refine lv_iadd hx hb dX7_cell_69 ?_
      refine s_iald E hU hB.1 (slt hsh hn 158 rfl) rfl dX7_cell_70 hf (fun y8 hf => ?_)
      refine lv_iload hx hb dX7_cell_71 (lv_at hl 1 rfl) ?_
      refine lv_icmp_eq (tgt := 82) hx hb dX7_cell_73 rfl (fun hc => ?_) (fun hc => ?_)
      · have hf := ite_t hf hc
        exact wX7_cell_82 E hlocks hrt hU hsh hn hB hf (lv_sub hl [2] rfl)
      · have hf := ite_f hf hc
        obtain ⟨z9, ez9, hf⟩ := nm_x hf
        refine lv_iinc (v := z9) (lv' := [(5, .int z9), (0, .ref (ad 157)), (4, .int x4)]) hx hb dX7_cell_76 hl (k := 2) rfl (by rw [ez9]; rfl) (Nat.le_of_ble_eq_true rfl) rfl (fun ls hl => ?_)
        refine lv_goto (tgt := 54) hx hb dX7_cell_79 rfl ?_
        exact ih _ _ hf (lv_sub hl [1, 2, 0] rfl)
set_option maxRecDepth 100000 in
set_option maxHeartbeats 4000000 in
theorem wX7_cell_27 {K : Nat} {x1 : Int32} {x2 : Int32} {x3 : Int32} {t1 : Int32} {res : (Int32 × sV)} (E : CallFix p m c cX7_cell 6 s args wsL_law RX7) (hlocks : meth.locks = false) (hrt : meth.sig.returnType = (some .int)) (hU : sU D G s) (hsh : sSh r) (hn : 172 ≤ n) {v : sV} {H : Heap} {locs : List Loc} (hB : sB D G (sA ad r n s.heap.size) s.heap ad r v n x H locs) {ls : Array Slot} (hf : bX7_cell_27 K x1 x2 x3 t1 v = some res) (hl : lv_has ls 6 [(0, .ref (ad 157)), (1, .int x1), (2, .int x2), (3, .int x3)]) :
    W p l e rmX7_cell s m args below meth c H locs 0 0 (MQ below (sQI D G ad r n x s.heap.size res) args s 0 0 (sA ad r n s.heap.size)) (F0 m 27 ls [.int t1, .ref (ad 157)]) := by
  have hx := E.1
  have hb := E.2.1
  have hts := E.2.2.2.2
  have hf := (bX7_cell_27.eq_1 ..).symm.trans hf
  refine s_putI (k := 6) (ty1 := .int) E hU hB sc9 (slt hsh hn 157 rfl) rfl inlX7 (Nat.le_of_ble_eq_true rfl) rfl rfl wkX7_47 rfl rfl rfl rfl dX7_cell_27 hf (fun v3 hf H locs hB => ?_)
  refine lv_aload_n hx hb dX7_cell_30 rfl (lv_at hl 0 rfl) ?_
  refine s_getI (k := 6) E hU hB.1 sc9 (slt hsh hn 157 rfl) rfl inlX7 (Nat.le_of_ble_eq_true rfl) rfl rfl wkX7_47 dX7_cell_31 ?_
  refine lv_if_eq (tgt := 39) hx hb dX7_cell_34 rfl (fun hc => ?_) (fun hc => ?_)
  · have hf := ite_t hf hc
    refine lv_iload_n hx hb dX7_cell_39 rfl (lv_at hl 1 rfl) ?_
    refine lv_iload_n hx hb dX7_cell_40 rfl (lv_at hl 2 rfl) ?_
    refine sc_R hf (rS_S (As := [.int x1, .int x2]) (rest := []) E (mX7_cellAt l x1 x2) (cwGS 2 okX7_cellAt wmX7_66 hts rfl rfl ⟨Nat.le_of_ble_eq_true rfl, Nat.le_of_ble_eq_true rfl⟩) rfl hl.1 (Nat.le_of_ble_eq_true rfl) dX7_cell_41 ⟨Nat.zero_le _, Nat.zero_le _⟩ rfl) (fun y4 hf => ?_)
    refine lv_istore (lv' := [(4, .int y4), (0, .ref (ad 157)), (1, .int x1), (2, .int x2), (3, .int x3)]) hx hb dX7_cell_44 hl (Nat.le_of_ble_eq_true rfl) rfl (fun ls hl => ?_)
    refine lv_iload_n hx hb dX7_cell_46 rfl (lv_at hl 4 rfl) ?_
    refine lv_iconst (v := 3) hx hb dX7_cell_47 rfl ?_
    refine lv_icmp_ne (tgt := 95) hx hb dX7_cell_48 rfl (fun hc => ?_) (fun hc => ?_)
    · have hf := ite_f hf hc
      refine lv_iload_n hx hb dX7_cell_95 rfl (lv_at hl 4 rfl) ?_
      refine lv_if_ne (tgt := 111) hx hb dX7_cell_96 rfl (fun hc => ?_) (fun hc => ?_)
      · have hf := ite_f hf hc
        refine lv_iload_n hx hb dX7_cell_111 rfl (lv_at hl 4 rfl) ?_
        refine lv_iconst (v := 1) hx hb dX7_cell_112 rfl ?_
        refine lv_icmp_ne (tgt := 125) hx hb dX7_cell_113 rfl (fun hc => ?_) (fun hc => ?_)
        · have hf := ite_f hf hc
          refine lv_aload_n hx hb dX7_cell_125 rfl (lv_at hl 1 rfl) ?_
          refine s_getR (k := 0) (t := 158) E hU hB.1 sc9 (slt hsh hn 157 rfl) rfl inlX7 (Nat.le_of_ble_eq_true rfl) rfl rfl wkX7_9 (hsh.1 157 0 158 rfl) dX7_cell_126 ?_
          refine lv_sipush (v := 140) hx hb dX7_cell_129 rfl ?_
          refine lv_iload hx hb dX7_cell_132 (lv_at hl 0 rfl) ?_
          refine lv_iadd hx hb dX7_cell_134 ?_
          refine s_iald E hU hB.1 (slt hsh hn 158 rfl) rfl dX7_cell_135 hf (fun y5 hf => ?_)
          exact s_iretW E hrt hlocks hB hf dX7_cell_136
        · have hf := ite_t hf hc
          refine lv_aload_n hx hb dX7_cell_116 rfl (lv_at hl 1 rfl) ?_
          refine lv_iload hx hb dX7_cell_117 (lv_at hl 0 rfl) ?_
          refine sc_R hf (rV_R (As := [.int y4]) (rest := []) E hU hB.1 sc9 (slt hsh hn 157 rfl) rfl (mX7_agentOn l K D G ad r _ n x hsh hn y4) (cwGV 1 okX7_agentOn wmX7_93 hts rfl rfl ⟨Nat.le_of_ble_eq_true rfl, Nat.le_of_ble_eq_true rfl⟩) rfl hl.1 (Nat.le_of_ble_eq_true rfl) dX7_cell_119 ⟨Nat.zero_le _, Nat.zero_le _⟩ rfl) (fun y6 hf => ?_)
          refine lv_goto (tgt := 136) hx hb dX7_cell_122 rfl ?_
          exact s_iretW E hrt hlocks hB hf dX7_cell_136
      · have hf := ite_t hf hc
        refine lv_aload_n hx hb dX7_cell_99 rfl (lv_at hl 1 rfl) ?_
        refine s_getR (k := 0) (t := 158) E hU hB.1 sc9 (slt hsh hn 157 rfl) rfl inlX7 (Nat.le_of_ble_eq_true rfl) rfl rfl wkX7_9 (hsh.1 157 0 158 rfl) dX7_cell_100 ?_
        refine lv_iconst (v := 0) hx hb dX7_cell_103 rfl ?_
        refine lv_iload hx hb dX7_cell_104 (lv_at hl 0 rfl) ?_
        refine lv_iadd hx hb dX7_cell_106 ?_
        refine s_iald E hU hB.1 (slt hsh hn 158 rfl) rfl dX7_cell_107 hf (fun y7 hf => ?_)
        refine lv_goto (tgt := 136) hx hb dX7_cell_108 rfl ?_
        exact s_iretW E hrt hlocks hB hf dX7_cell_136
    · have hf := ite_t hf hc
      refine lv_iconst (v := 0) hx hb dX7_cell_51 rfl ?_
      refine lv_istore (lv' := [(5, .int 0), (4, .int y4), (0, .ref (ad 157)), (1, .int x1), (2, .int x2), (3, .int x3)]) hx hb dX7_cell_52 hl (Nat.le_of_ble_eq_true rfl) rfl (fun ls hl => ?_)
      exact lX7_cell_54 E hlocks hrt hU hsh hn hB _ _ _ hf (lv_sub hl [2, 1, 0] rfl)
  · have hf := ite_f hf hc
    refine lv_iconst (v := 0) hx hb dX7_cell_37 rfl ?_
    exact s_iretW E hrt hlocks hB hf dX7_cell_38
set_option maxRecDepth 100000 in
set_option maxHeartbeats 4000000 in
theorem mX7_cell (l : Launch) (K : Nat) (D : va_G) (G : Nat → ClassId) (ad : Nat → Nat) (r : sR) (v : sV) (n : Nat) (x : Int64 × UInt64) (hsh : sSh r) (hn : 172 ≤ n) (x1 : Int32) (x2 : Int32) (x3 : Int32) : sMI l yX7_cell (.code yX7_cell cX7_cell 6 (some .int) :: wsL_law) rmX7_cell D G ad r v n x [.ref (ad 157), .int x1, .int x2, .int x3] (fX7_cell K x1 x2 x3 v) := by
  intro sz res hf
  refine Met.ofW (cc := cX7_cell) (maxL := 6) (ret := (some .int)) (by decide) rfl ?_
  intro p e s m args below meth c s₁ B hml hv
  obtain ⟨rfl, rfl, hU, hP, hD⟩ := hv
  have hx := B.exec
  have hb := B.bytes
  have hrt := B.returns
  have hts : ∀ w ∈ wsL_law, w.before _ s = true := fun w hw => atoms_spec (ws := .code yX7_cell cX7_cell 6 (some .int) :: wsL_law) B.pre w (List.mem_cons_of_mem _ hw)
  have hlocks := B.notSynchronized
  have E : CallFix p m c cX7_cell 6 s ([.ref (ad 157), .int x1, .int x2, .int x3] : List Value).toArray wsL_law RX7 := ⟨hx, hb, hml, findClass_of_methodNamed B.named, hts⟩
  have hB : sB D G (sA ad r n s.heap.size) s.heap ad r v n x s.heap [] := ⟨hP, sD_self hD, va_S.rf⟩
  have hl := lv_entry ([.ref (ad 157), .int x1, .int x2, .int x3]) (n := 6) (Nat.le_of_ble_eq_true rfl)
  rw [lg_entry_eq]
  generalize (lg_sl ([.ref (ad 157), .int x1, .int x2, .int x3]) ++ List.replicate (6 - (lg_sl ([.ref (ad 157), .int x1, .int x2, .int x3])).length) Slot.unset).toArray = ls at hl ⊢
  have hl : lv_has ls 6 [(0, .ref (ad 157)), (1, .int x1), (2, .int x2), (3, .int x3)] := hl
  have hf := (fX7_cell.eq_1 ..).symm.trans hf
  refine lv_aload_n hx hb dX7_cell_0 rfl (lv_at hl 0 rfl) ?_
  refine lv_iload_n hx hb dX7_cell_1 rfl (lv_at hl 1 rfl) ?_
  refine lv_iload_n hx hb dX7_cell_2 rfl (lv_at hl 2 rfl) ?_
  refine sc_R hf (rS_S (As := [.int x1, .int x2]) (rest := [.ref (ad 157)]) E (mX7_isCell l x1 x2) (cwGS 2 okX7_isCell wmX7_62 hts rfl rfl ⟨Nat.le_of_ble_eq_true rfl, Nat.le_of_ble_eq_true rfl⟩) rfl hl.1 (Nat.le_of_ble_eq_true rfl) dX7_cell_3 ⟨Nat.zero_le _, Nat.zero_le _⟩ rfl) (fun y1 hf => ?_)
  refine lv_if_ne (tgt := 13) hx hb dX7_cell_6 rfl (fun hc => ?_) (fun hc => ?_)
  · have hf := ite_f hf hc
    refine lv_iload_n hx hb dX7_cell_13 rfl (lv_at hl 3 rfl) ?_
    refine lv_iconst (v := 0) hx hb dX7_cell_14 rfl ?_
    refine lv_iconst (v := 3) hx hb dX7_cell_15 rfl ?_
    refine sc_R hf (rS_S (As := [.int x3, .int 0, .int 3]) (rest := [.ref (ad 157)]) E (mX7_isIn l x3 0 3) (cwGS 3 okX7_isIn wmX7_51 hts rfl rfl ⟨Nat.le_of_ble_eq_true rfl, Nat.le_of_ble_eq_true rfl⟩) rfl hl.1 (Nat.le_of_ble_eq_true rfl) dX7_cell_16 ⟨Nat.zero_le _, Nat.zero_le _⟩ rfl) (fun y2 hf => ?_)
    refine lv_if_eq (tgt := 26) hx hb dX7_cell_19 rfl (fun hc => ?_) (fun hc => ?_)
    · have hf := ite_t hf hc
      refine lv_iconst (v := 2) hx hb dX7_cell_26 rfl ?_
      exact wX7_cell_27 E hlocks hrt hU hsh hn hB hf (lv_sub hl [0, 1, 2, 3] rfl)
    · have hf := ite_f hf hc
      refine lv_iconst (v := 0) hx hb dX7_cell_22 rfl ?_
      refine lv_goto (tgt := 27) hx hb dX7_cell_23 rfl ?_
      exact wX7_cell_27 E hlocks hrt hU hsh hn hB hf (lv_sub hl [0, 1, 2, 3] rfl)
  · have hf := ite_t hf hc
    refine lv_iconst (v := 1) hx hb dX7_cell_9 rfl ?_
    refine lv_goto (tgt := 27) hx hb dX7_cell_10 rfl ?_
    exact wX7_cell_27 E hlocks hrt hU hsh hn hB hf (lv_sub hl [0, 1, 2, 3] rfl)
abbrev rmX7_isGoal : Room := { frames := 1, cells := 0, slots := 0, locals := 22 }
set_option maxRecDepth 100000 in
set_option maxHeartbeats 4000000 in
theorem mX7_isGoal (l : Launch) (x0 : Int32) : sMS l yX7_isGoal (.code yX7_isGoal cX7_isGoal 1 (some .boolean) :: wsL_law) rmX7_isGoal [.int x0] (fX7_isGoal x0) := by
  intro res hf
  refine Met.ofW (cc := cX7_isGoal) (maxL := 1) (ret := (some .boolean)) (by decide) rfl ?_
  intro p e s m args below meth c s₁ B hml hv
  obtain ⟨rfl, -⟩ := hv
  have hx := B.exec
  have hb := B.bytes
  have hrt := B.returns
  have hts : ∀ w ∈ wsL_law, w.before _ s = true := fun w hw => atoms_spec (ws := .code yX7_isGoal cX7_isGoal 1 (some .boolean) :: wsL_law) B.pre w (List.mem_cons_of_mem _ hw)
  have hlocks := B.notSynchronized
  have E : CallFix p m c cX7_isGoal 1 s ([.int x0] : List Value).toArray wsL_law RX7 := ⟨hx, hb, hml, findClass_of_methodNamed B.named, hts⟩
  have hl := lv_entry ([.int x0]) (n := 1) (Nat.le_of_ble_eq_true rfl)
  rw [lg_entry_eq]
  generalize (lg_sl ([.int x0]) ++ List.replicate (1 - (lg_sl ([.int x0])).length) Slot.unset).toArray = ls at hl ⊢
  have hl : lv_has ls 1 [(0, .int x0)] := hl
  have hf := (fX7_isGoal.eq_1 ..).symm.trans hf
  refine lv_iload_n hx hb dX7_isGoal_0 rfl (lv_at hl 0 rfl) ?_
  refine lv_iconst (v := 0) hx hb dX7_isGoal_1 rfl ?_
  refine lv_iconst (v := 3) hx hb dX7_isGoal_2 rfl ?_
  refine sc_R hf (rS_S (As := [.int x0, .int 0, .int 3]) (rest := []) E (mX7_isIn l x0 0 3) (cwGS 3 okX7_isIn wmX7_51 hts rfl rfl ⟨Nat.le_of_ble_eq_true rfl, Nat.le_of_ble_eq_true rfl⟩) rfl hl.1 (Nat.le_of_ble_eq_true rfl) dX7_isGoal_3 ⟨Nat.zero_le _, Nat.zero_le _⟩ rfl) (fun y1 hf => ?_)
  obtain ⟨hc9, hf⟩ := ckz_e hf
  exact s_zretR E hrt hlocks (nz_of hc9) hf dX7_isGoal_6
abbrev rmX7_setGoal : Room := { frames := 5, cells := 0, slots := 0, locals := 116 }
set_option maxRecDepth 100000 in
set_option maxHeartbeats 4000000 in
theorem lX7_setGoal_78 {K : Nat} {x4 : Int32} {res : (Int32 × sV)} (E : CallFix p m c cX7_setGoal 7 s args wsL_law RX7) (hlocks : meth.locks = false) (hrt : meth.sig.returnType = (some .int)) (hU : sU D G s) (hsh : sSh r) (hn : 172 ≤ n) :
    ∀ (k : Nat) (x5 : Int32) (x6 : Int32) (v : sV) (H : Heap) (locs : List Loc) (ls : Array Slot), fx3 (gX7_setGoal_78 K x4) k x5 x6 v = some res → sB D G (sA ad r n s.heap.size) s.heap ad r v n x H locs → lv_has ls 7 [(0, .ref (ad 157)), (4, .int x4), (5, .int x5), (6, .int x6)] → W p l e rmX7_setGoal s m args below meth c H locs 0 0 (MQ below (sQI D G ad r n x s.heap.size res) args s 0 0 (sA ad r n s.heap.size)) (F0 m 78 ls []) := by
  have hx := E.1
  have hb := E.2.1
  have hts := E.2.2.2.2
  intro k
  induction k with
  | zero =>
    intro x5 x6 v H locs ls hf hB hl
    exact fx3_z hf
  | succ k ih =>
    intro x5 x6 v H locs ls hf hB hl
    have hf := (gX7_setGoal_78.eq_1 ..).symm.trans hf
    refine lv_iload hx hb dX7_setGoal_78 (lv_at hl 3 rfl) ?_
    refine lv_sipush (v := 140) hx hb dX7_setGoal_80 rfl ?_
    refine lv_icmp_ge (tgt := 113) hx hb dX7_setGoal_83 rfl (fun hc => ?_) (fun hc => ?_)
    · have hf := ite_t hf hc
      refine lv_iload hx hb dX7_setGoal_113 (lv_at hl 2 rfl) ?_
      exact s_iretW E hrt hlocks hB hf dX7_setGoal_115
    · have hf := ite_f hf hc
      refine lv_iload hx hb dX7_setGoal_86 (lv_at hl 2 rfl) ?_
      refine lv_aload_n hx hb dX7_setGoal_88 rfl (lv_at hl 0 rfl) ?_
      refine lv_iload hx hb dX7_setGoal_89 (lv_at hl 1 rfl) ?_
      refine lv_iload hx hb dX7_setGoal_91 (lv_at hl 3 rfl) ?_
      refine sc_I hB (fun q h => Or.inr h) hf (fun q9 h9 => rV_W (As := [.int x4, .int x6]) (rest := [.int x5]) E hU hB sc9 (slt hsh hn 157 rfl) rfl ((mX7_far l K D G ad r _ n x hsh hn x4 x6) _ _ h9) (cwGV 2 okX7_far wmX7_87 hts rfl rfl ⟨Nat.le_of_ble_eq_true rfl, Nat.le_of_ble_eq_true rfl⟩) rfl hl.1 (Nat.le_of_ble_eq_true rfl) dX7_setGoal_93 ⟨Nat.zero_le _, Nat.zero_le _⟩ rfl) (fun y7 v6 hf H locs hB => ?_)
      refine lv_if_lt (tgt := 103) hx hb dX7_setGoal_96 rfl (fun hc => ?_) (fun hc => ?_)
      · have hf := ite_t hf hc
        refine lv_iconst (v := 0) hx hb dX7_setGoal_103 rfl ?_
        refine lv_iadd hx hb dX7_setGoal_104 ?_
        refine s_nm hf (fun z8 hf => ?_)
        refine lv_istore (lv' := [(5, .int z8), (0, .ref (ad 157)), (4, .int x4), (6, .int x6)]) hx hb dX7_setGoal_105 hl (Nat.le_of_ble_eq_true rfl) rfl (fun ls hl => ?_)
        obtain ⟨z9, ez9, hf⟩ := nm_x hf
        refine lv_iinc (v := z9) (lv' := [(6, .int z9), (5, .int z8), (0, .ref (ad 157)), (4, .int x4)]) hx hb dX7_setGoal_107 hl (k := 3) rfl (by rw [ez9]; rfl) (Nat.le_of_ble_eq_true rfl) rfl (fun ls hl => ?_)
        refine lv_goto (tgt := 78) hx hb dX7_setGoal_110 rfl ?_
        exact ih _ _ _ _ _ _ hf hB (lv_sub hl [2, 3, 1, 0] rfl)
      · have hf := ite_f hf hc
        refine lv_iconst (v := 1) hx hb dX7_setGoal_99 rfl ?_
        refine lv_goto (tgt := 104) hx hb dX7_setGoal_100 rfl ?_
        refine lv_iadd hx hb dX7_setGoal_104 ?_
        refine s_nm hf (fun z10 hf => ?_)
        refine lv_istore (lv' := [(5, .int z10), (0, .ref (ad 157)), (4, .int x4), (6, .int x6)]) hx hb dX7_setGoal_105 hl (Nat.le_of_ble_eq_true rfl) rfl (fun ls hl => ?_)
        obtain ⟨z11, ez9, hf⟩ := nm_x hf
        refine lv_iinc (v := z11) (lv' := [(6, .int z11), (5, .int z10), (0, .ref (ad 157)), (4, .int x4)]) hx hb dX7_setGoal_107 hl (k := 3) rfl (by rw [ez9]; rfl) (Nat.le_of_ble_eq_true rfl) rfl (fun ls hl => ?_)
        refine lv_goto (tgt := 78) hx hb dX7_setGoal_110 rfl ?_
        exact ih _ _ _ _ _ _ hf hB (lv_sub hl [2, 3, 1, 0] rfl)
set_option maxRecDepth 100000 in
set_option maxHeartbeats 4000000 in
theorem wX7_setGoal_37 {K : Nat} {x1 : Int32} {x2 : Int32} {x3 : Int32} {t1 : Int32} {res : (Int32 × sV)} (E : CallFix p m c cX7_setGoal 7 s args wsL_law RX7) (hlocks : meth.locks = false) (hrt : meth.sig.returnType = (some .int)) (hU : sU D G s) (hsh : sSh r) (hn : 172 ≤ n) {v : sV} {H : Heap} {locs : List Loc} (hB : sB D G (sA ad r n s.heap.size) s.heap ad r v n x H locs) {ls : Array Slot} (hf : bX7_setGoal_37 K x1 x2 x3 t1 v = some res) (hl : lv_has ls 7 [(0, .ref (ad 157)), (1, .int x1), (2, .int x2), (3, .int x3)]) :
    W p l e rmX7_setGoal s m args below meth c H locs 0 0 (MQ below (sQI D G ad r n x s.heap.size res) args s 0 0 (sA ad r n s.heap.size)) (F0 m 37 ls [.int t1, .ref (ad 157)]) := by
  have hx := E.1
  have hb := E.2.1
  have hts := E.2.2.2.2
  have hf := (bX7_setGoal_37.eq_1 ..).symm.trans hf
  refine s_putI (k := 6) (ty1 := .int) E hU hB sc9 (slt hsh hn 157 rfl) rfl inlX7 (Nat.le_of_ble_eq_true rfl) rfl rfl wkX7_47 rfl rfl rfl rfl dX7_setGoal_37 hf (fun v2 hf H locs hB => ?_)
  refine lv_aload_n hx hb dX7_setGoal_40 rfl (lv_at hl 0 rfl) ?_
  refine s_getI (k := 6) E hU hB.1 sc9 (slt hsh hn 157 rfl) rfl inlX7 (Nat.le_of_ble_eq_true rfl) rfl rfl wkX7_47 dX7_setGoal_41 ?_
  refine lv_if_eq (tgt := 49) hx hb dX7_setGoal_44 rfl (fun hc => ?_) (fun hc => ?_)
  · have hf := ite_t hf hc
    refine lv_aload_n hx hb dX7_setGoal_49 rfl (lv_at hl 0 rfl) ?_
    refine sc_V hB (fun q h => Or.inr h) hf (fun q9 h9 => rV_W (As := []) (rest := []) E hU hB sc9 (slt hsh hn 157 rfl) rfl ((mX7_keeps l K D G ad r _ n x hsh hn) _ _ h9) (cwGV 0 okX7_keeps wmX7_96 hts rfl rfl ⟨Nat.le_of_ble_eq_true rfl, Nat.le_of_ble_eq_true rfl⟩) rfl hl.1 (Nat.le_of_ble_eq_true rfl) dX7_setGoal_50 ⟨Nat.zero_le _, Nat.zero_le _⟩ rfl) (fun v3 hf H locs hB => ?_)
    refine lv_iload_n hx hb dX7_setGoal_53 rfl (lv_at hl 2 rfl) ?_
    refine lv_iload_n hx hb dX7_setGoal_54 rfl (lv_at hl 3 rfl) ?_
    refine sc_R hf (rS_S (As := [.int x2, .int x3]) (rest := []) E (mX7_cellAt l x2 x3) (cwGS 2 okX7_cellAt wmX7_66 hts rfl rfl ⟨Nat.le_of_ble_eq_true rfl, Nat.le_of_ble_eq_true rfl⟩) rfl hl.1 (Nat.le_of_ble_eq_true rfl) dX7_setGoal_55 ⟨Nat.zero_le _, Nat.zero_le _⟩ rfl) (fun y4 hf => ?_)
    refine lv_istore (lv' := [(4, .int y4), (0, .ref (ad 157)), (1, .int x1), (2, .int x2), (3, .int x3)]) hx hb dX7_setGoal_58 hl (Nat.le_of_ble_eq_true rfl) rfl (fun ls hl => ?_)
    refine lv_aload_n hx hb dX7_setGoal_60 rfl (lv_at hl 1 rfl) ?_
    refine s_getR (k := 0) (t := 158) E hU hB.1 sc9 (slt hsh hn 157 rfl) rfl inlX7 (Nat.le_of_ble_eq_true rfl) rfl rfl wkX7_9 (hsh.1 157 0 158 rfl) dX7_setGoal_61 ?_
    refine lv_sipush (v := 280) hx hb dX7_setGoal_64 rfl ?_
    refine lv_iload_n hx hb dX7_setGoal_67 rfl (lv_at hl 2 rfl) ?_
    refine lv_iadd hx hb dX7_setGoal_68 ?_
    refine lv_iload hx hb dX7_setGoal_69 (lv_at hl 0 rfl) ?_
    refine s_iast E hU hB (slt hsh hn 158 rfl) rfl dX7_setGoal_71 hf (fun v5 hf H locs hB => ?_)
    refine lv_iconst (v := 0) hx hb dX7_setGoal_72 rfl ?_
    refine lv_istore (lv' := [(5, .int 0), (4, .int y4), (0, .ref (ad 157)), (1, .int x1), (2, .int x2), (3, .int x3)]) hx hb dX7_setGoal_73 hl (Nat.le_of_ble_eq_true rfl) rfl (fun ls hl => ?_)
    refine lv_iconst (v := 0) hx hb dX7_setGoal_75 rfl ?_
    refine lv_istore (lv' := [(6, .int 0), (5, .int 0), (4, .int y4), (0, .ref (ad 157)), (1, .int x1), (2, .int x2), (3, .int x3)]) hx hb dX7_setGoal_76 hl (Nat.le_of_ble_eq_true rfl) rfl (fun ls hl => ?_)
    exact lX7_setGoal_78 E hlocks hrt hU hsh hn _ _ _ _ _ _ _ hf hB (lv_sub hl [3, 2, 1, 0] rfl)
  · have hf := ite_f hf hc
    refine lv_iconst (v := 0) hx hb dX7_setGoal_47 rfl ?_
    exact s_iretW E hrt hlocks hB hf dX7_setGoal_48
set_option maxRecDepth 100000 in
set_option maxHeartbeats 4000000 in
theorem mX7_setGoal (l : Launch) (K : Nat) (D : va_G) (G : Nat → ClassId) (ad : Nat → Nat) (r : sR) (v : sV) (n : Nat) (x : Int64 × UInt64) (hsh : sSh r) (hn : 172 ≤ n) (x1 : Int32) (x2 : Int32) (x3 : Int32) : sMI l yX7_setGoal (.code yX7_setGoal cX7_setGoal 7 (some .int) :: wsL_law) rmX7_setGoal D G ad r v n x [.ref (ad 157), .int x1, .int x2, .int x3] (fX7_setGoal K x1 x2 x3 v) := by
  intro sz res hf
  refine Met.ofW (cc := cX7_setGoal) (maxL := 7) (ret := (some .int)) (by decide) rfl ?_
  intro p e s m args below meth c s₁ B hml hv
  obtain ⟨rfl, rfl, hU, hP, hD⟩ := hv
  have hx := B.exec
  have hb := B.bytes
  have hrt := B.returns
  have hts : ∀ w ∈ wsL_law, w.before _ s = true := fun w hw => atoms_spec (ws := .code yX7_setGoal cX7_setGoal 7 (some .int) :: wsL_law) B.pre w (List.mem_cons_of_mem _ hw)
  have hlocks := B.notSynchronized
  have E : CallFix p m c cX7_setGoal 7 s ([.ref (ad 157), .int x1, .int x2, .int x3] : List Value).toArray wsL_law RX7 := ⟨hx, hb, hml, findClass_of_methodNamed B.named, hts⟩
  have hB : sB D G (sA ad r n s.heap.size) s.heap ad r v n x s.heap [] := ⟨hP, sD_self hD, va_S.rf⟩
  have hl := lv_entry ([.ref (ad 157), .int x1, .int x2, .int x3]) (n := 7) (Nat.le_of_ble_eq_true rfl)
  rw [lg_entry_eq]
  generalize (lg_sl ([.ref (ad 157), .int x1, .int x2, .int x3]) ++ List.replicate (7 - (lg_sl ([.ref (ad 157), .int x1, .int x2, .int x3])).length) Slot.unset).toArray = ls at hl ⊢
  have hl : lv_has ls 7 [(0, .ref (ad 157)), (1, .int x1), (2, .int x2), (3, .int x3)] := hl
  have hf := (fX7_setGoal.eq_1 ..).symm.trans hf
  refine lv_aload_n hx hb dX7_setGoal_0 rfl (lv_at hl 0 rfl) ?_
  refine lv_iload_n hx hb dX7_setGoal_1 rfl (lv_at hl 1 rfl) ?_
  refine sc_R hf (rS_S (As := [.int x1]) (rest := [.ref (ad 157)]) E (mX7_isGoal l x1) (cwGS 1 okX7_isGoal wmX7_99 hts rfl rfl ⟨Nat.le_of_ble_eq_true rfl, Nat.le_of_ble_eq_true rfl⟩) rfl hl.1 (Nat.le_of_ble_eq_true rfl) dX7_setGoal_2 ⟨Nat.zero_le _, Nat.zero_le _⟩ rfl) (fun y1 hf => ?_)
  refine lv_if_eq (tgt := 16) hx hb dX7_setGoal_5 rfl (fun hc => ?_) (fun hc => ?_)
  · have hf := ite_t hf hc
    refine lv_iconst (v := 1) hx hb dX7_setGoal_16 rfl ?_
    refine lv_goto (tgt := 37) hx hb dX7_setGoal_17 rfl ?_
    exact wX7_setGoal_37 E hlocks hrt hU hsh hn hB hf (lv_sub hl [0, 1, 2, 3] rfl)
  · have hf := ite_f hf hc
    refine lv_iload_n hx hb dX7_setGoal_8 rfl (lv_at hl 2 rfl) ?_
    refine lv_iload_n hx hb dX7_setGoal_9 rfl (lv_at hl 3 rfl) ?_
    refine sc_R hf (rS_S (As := [.int x2, .int x3]) (rest := [.ref (ad 157)]) E (mX7_isCell l x2 x3) (cwGS 2 okX7_isCell wmX7_62 hts rfl rfl ⟨Nat.le_of_ble_eq_true rfl, Nat.le_of_ble_eq_true rfl⟩) rfl hl.1 (Nat.le_of_ble_eq_true rfl) dX7_setGoal_10 ⟨Nat.zero_le _, Nat.zero_le _⟩ rfl) (fun y12 hf => ?_)
    refine lv_if_ne (tgt := 20) hx hb dX7_setGoal_13 rfl (fun hc => ?_) (fun hc => ?_)
    · have hf := ite_f hf hc
      refine lv_aload_n hx hb dX7_setGoal_20 rfl (lv_at hl 0 rfl) ?_
      refine lv_iload_n hx hb dX7_setGoal_21 rfl (lv_at hl 2 rfl) ?_
      refine lv_iload_n hx hb dX7_setGoal_22 rfl (lv_at hl 3 rfl) ?_
      refine sc_R hf (rS_S (As := [.int x2, .int x3]) (rest := [.ref (ad 157), .ref (ad 157)]) E (mX7_cellAt l x2 x3) (cwGS 2 okX7_cellAt wmX7_66 hts rfl rfl ⟨Nat.le_of_ble_eq_true rfl, Nat.le_of_ble_eq_true rfl⟩) rfl hl.1 (Nat.le_of_ble_eq_true rfl) dX7_setGoal_23 ⟨Nat.zero_le _, Nat.zero_le _⟩ rfl) (fun y13 hf => ?_)
      refine sc_R hf (rV_R (As := [.int y13]) (rest := [.ref (ad 157)]) E hU hB.1 sc9 (slt hsh hn 157 rfl) rfl (mX7_isFree l D G ad r _ n x hsh hn y13) (cwGV 1 okX7_isFree wmX7_79 hts rfl rfl ⟨Nat.le_of_ble_eq_true rfl, Nat.le_of_ble_eq_true rfl⟩) rfl hl.1 (Nat.le_of_ble_eq_true rfl) dX7_setGoal_26 ⟨Nat.zero_le _, Nat.zero_le _⟩ rfl) (fun y14 hf => ?_)
      refine lv_if_eq (tgt := 36) hx hb dX7_setGoal_29 rfl (fun hc => ?_) (fun hc => ?_)
      · have hf := ite_t hf hc
        refine lv_iconst (v := 2) hx hb dX7_setGoal_36 rfl ?_
        exact wX7_setGoal_37 E hlocks hrt hU hsh hn hB hf (lv_sub hl [0, 1, 2, 3] rfl)
      · have hf := ite_f hf hc
        refine lv_iconst (v := 0) hx hb dX7_setGoal_32 rfl ?_
        refine lv_goto (tgt := 37) hx hb dX7_setGoal_33 rfl ?_
        exact wX7_setGoal_37 E hlocks hrt hU hsh hn hB hf (lv_sub hl [0, 1, 2, 3] rfl)
    · have hf := ite_t hf hc
      refine lv_iconst (v := 1) hx hb dX7_setGoal_16 rfl ?_
      refine lv_goto (tgt := 37) hx hb dX7_setGoal_17 rfl ?_
      exact wX7_setGoal_37 E hlocks hrt hU hsh hn hB hf (lv_sub hl [0, 1, 2, 3] rfl)
abbrev rmX7_dropGoal : Room := { frames := 2, cells := 0, slots := 0, locals := 43 }
set_option maxRecDepth 100000 in
set_option maxHeartbeats 4000000 in
theorem lX7_dropGoal_61 {K : Nat} {x1 : Int32} {res : (Int32 × sV)} (E : CallFix p m c cX7_dropGoal 4 s args wsL_law RX7) (hlocks : meth.locks = false) (hrt : meth.sig.returnType = (some .int)) (hU : sU D G s) (hsh : sSh r) (hn : 172 ≤ n) {v : sV} {H : Heap} {locs : List Loc} (hB : sB D G (sA ad r n s.heap.size) s.heap ad r v n x H locs) :
    ∀ (k : Nat) (x2 : Int32) (x3 : Int32) (ls : Array Slot), fx2 (gX7_dropGoal_61 K x1 v) k x2 x3 = some res → lv_has ls 4 [(0, .ref (ad 157)), (1, .int x1), (2, .int x2), (3, .int x3)] → W p l e rmX7_dropGoal s m args below meth c H locs 0 0 (MQ below (sQI D G ad r n x s.heap.size res) args s 0 0 (sA ad r n s.heap.size)) (F0 m 61 ls []) := by
  have hx := E.1
  have hb := E.2.1
  have hts := E.2.2.2.2
  intro k
  induction k with
  | zero =>
    intro x2 x3 ls hf hl
    exact fx2_z hf
  | succ k ih =>
    intro x2 x3 ls hf hl
    have hf := (gX7_dropGoal_61.eq_1 ..).symm.trans hf
    refine lv_iload_n hx hb dX7_dropGoal_61 rfl (lv_at hl 3 rfl) ?_
    refine lv_bipush (v := 16) hx hb dX7_dropGoal_62 rfl ?_
    refine lv_icmp_ge (tgt := 99) hx hb dX7_dropGoal_64 rfl (fun hc => ?_) (fun hc => ?_)
    · have hf := ite_t hf hc
      refine lv_iload_n hx hb dX7_dropGoal_99 rfl (lv_at hl 2 rfl) ?_
      exact s_iretW E hrt hlocks hB hf dX7_dropGoal_100
    · have hf := ite_f hf hc
      refine lv_iload_n hx hb dX7_dropGoal_67 rfl (lv_at hl 2 rfl) ?_
      refine lv_aload_n hx hb dX7_dropGoal_68 rfl (lv_at hl 0 rfl) ?_
      refine lv_iload_n hx hb dX7_dropGoal_69 rfl (lv_at hl 3 rfl) ?_
      refine sc_R hf (rV_R (As := [.int x3]) (rest := [.int x2]) E hU hB.1 sc9 (slt hsh hn 157 rfl) rfl (mX7_isAgent l D G ad r _ n x hsh hn x3) (cwGV 1 okX7_isAgent wmX7_102 hts rfl rfl ⟨Nat.le_of_ble_eq_true rfl, Nat.le_of_ble_eq_true rfl⟩) rfl hl.1 (Nat.le_of_ble_eq_true rfl) dX7_dropGoal_70 ⟨Nat.zero_le _, Nat.zero_le _⟩ rfl) (fun y6 hf => ?_)
      refine lv_if_eq (tgt := 90) hx hb dX7_dropGoal_73 rfl (fun hc => ?_) (fun hc => ?_)
      · have hf := ite_t hf hc
        refine lv_iconst (v := 0) hx hb dX7_dropGoal_90 rfl ?_
        refine lv_iadd hx hb dX7_dropGoal_91 ?_
        refine s_nm hf (fun z7 hf => ?_)
        refine lv_istore_n (lv' := [(2, .int z7), (0, .ref (ad 157)), (1, .int x1), (3, .int x3)]) hx hb dX7_dropGoal_92 rfl hl (Nat.le_of_ble_eq_true rfl) rfl (fun ls hl => ?_)
        obtain ⟨z8, ez9, hf⟩ := nm_x hf
        refine lv_iinc (v := z8) (lv' := [(3, .int z8), (2, .int z7), (0, .ref (ad 157)), (1, .int x1)]) hx hb dX7_dropGoal_93 hl (k := 3) rfl (by rw [ez9]; rfl) (Nat.le_of_ble_eq_true rfl) rfl (fun ls hl => ?_)
        refine lv_goto (tgt := 61) hx hb dX7_dropGoal_96 rfl ?_
        exact ih _ _ _ hf (lv_sub hl [2, 3, 1, 0] rfl)
      · have hf := ite_f hf hc
        refine lv_aload_n hx hb dX7_dropGoal_76 rfl (lv_at hl 0 rfl) ?_
        refine lv_iload_n hx hb dX7_dropGoal_77 rfl (lv_at hl 3 rfl) ?_
        refine lv_iconst (v := 2) hx hb dX7_dropGoal_78 rfl ?_
        refine sc_R hf (rV_R (As := [.int x3, .int 2]) (rest := [.int x2]) E hU hB.1 sc9 (slt hsh hn 157 rfl) rfl (mX7_at l D G ad r _ n x hsh hn x3 2) (cwGV 2 okX7_at wmX7_105 hts rfl rfl ⟨Nat.le_of_ble_eq_true rfl, Nat.le_of_ble_eq_true rfl⟩) rfl hl.1 (Nat.le_of_ble_eq_true rfl) dX7_dropGoal_79 ⟨Nat.zero_le _, Nat.zero_le _⟩ rfl) (fun y9 hf => ?_)
        refine lv_iload_n hx hb dX7_dropGoal_82 rfl (lv_at hl 1 rfl) ?_
        refine lv_icmp_ne (tgt := 90) hx hb dX7_dropGoal_83 rfl (fun hc => ?_) (fun hc => ?_)
        · have hf := ite_f hf hc
          refine lv_iconst (v := 0) hx hb dX7_dropGoal_90 rfl ?_
          refine lv_iadd hx hb dX7_dropGoal_91 ?_
          refine s_nm hf (fun z10 hf => ?_)
          refine lv_istore_n (lv' := [(2, .int z10), (0, .ref (ad 157)), (1, .int x1), (3, .int x3)]) hx hb dX7_dropGoal_92 rfl hl (Nat.le_of_ble_eq_true rfl) rfl (fun ls hl => ?_)
          obtain ⟨z11, ez9, hf⟩ := nm_x hf
          refine lv_iinc (v := z11) (lv' := [(3, .int z11), (2, .int z10), (0, .ref (ad 157)), (1, .int x1)]) hx hb dX7_dropGoal_93 hl (k := 3) rfl (by rw [ez9]; rfl) (Nat.le_of_ble_eq_true rfl) rfl (fun ls hl => ?_)
          refine lv_goto (tgt := 61) hx hb dX7_dropGoal_96 rfl ?_
          exact ih _ _ _ hf (lv_sub hl [2, 3, 1, 0] rfl)
        · have hf := ite_t hf hc
          refine lv_iconst (v := 1) hx hb dX7_dropGoal_86 rfl ?_
          refine lv_goto (tgt := 91) hx hb dX7_dropGoal_87 rfl ?_
          refine lv_iadd hx hb dX7_dropGoal_91 ?_
          refine s_nm hf (fun z12 hf => ?_)
          refine lv_istore_n (lv' := [(2, .int z12), (0, .ref (ad 157)), (1, .int x1), (3, .int x3)]) hx hb dX7_dropGoal_92 rfl hl (Nat.le_of_ble_eq_true rfl) rfl (fun ls hl => ?_)
          obtain ⟨z13, ez9, hf⟩ := nm_x hf
          refine lv_iinc (v := z13) (lv' := [(3, .int z13), (2, .int z12), (0, .ref (ad 157)), (1, .int x1)]) hx hb dX7_dropGoal_93 hl (k := 3) rfl (by rw [ez9]; rfl) (Nat.le_of_ble_eq_true rfl) rfl (fun ls hl => ?_)
          refine lv_goto (tgt := 61) hx hb dX7_dropGoal_96 rfl ?_
          exact ih _ _ _ hf (lv_sub hl [2, 3, 1, 0] rfl)
set_option maxRecDepth 100000 in
set_option maxHeartbeats 4000000 in
theorem wX7_dropGoal_30 {K : Nat} {x1 : Int32} {t1 : Int32} {res : (Int32 × sV)} (E : CallFix p m c cX7_dropGoal 4 s args wsL_law RX7) (hlocks : meth.locks = false) (hrt : meth.sig.returnType = (some .int)) (hU : sU D G s) (hsh : sSh r) (hn : 172 ≤ n) {v : sV} {H : Heap} {locs : List Loc} (hB : sB D G (sA ad r n s.heap.size) s.heap ad r v n x H locs) {ls : Array Slot} (hf : bX7_dropGoal_30 K x1 t1 v = some res) (hl : lv_has ls 4 [(0, .ref (ad 157)), (1, .int x1)]) :
    W p l e rmX7_dropGoal s m args below meth c H locs 0 0 (MQ below (sQI D G ad r n x s.heap.size res) args s 0 0 (sA ad r n s.heap.size)) (F0 m 30 ls [.int t1, .ref (ad 157)]) := by
  have hx := E.1
  have hb := E.2.1
  have hts := E.2.2.2.2
  have hf := (bX7_dropGoal_30.eq_1 ..).symm.trans hf
  refine s_putI (k := 6) (ty1 := .int) E hU hB sc9 (slt hsh hn 157 rfl) rfl inlX7 (Nat.le_of_ble_eq_true rfl) rfl rfl wkX7_47 rfl rfl rfl rfl dX7_dropGoal_30 hf (fun v3 hf H locs hB => ?_)
  refine lv_aload_n hx hb dX7_dropGoal_33 rfl (lv_at hl 0 rfl) ?_
  refine s_getI (k := 6) E hU hB.1 sc9 (slt hsh hn 157 rfl) rfl inlX7 (Nat.le_of_ble_eq_true rfl) rfl rfl wkX7_47 dX7_dropGoal_34 ?_
  refine lv_if_eq (tgt := 42) hx hb dX7_dropGoal_37 rfl (fun hc => ?_) (fun hc => ?_)
  · have hf := ite_t hf hc
    refine lv_aload_n hx hb dX7_dropGoal_42 rfl (lv_at hl 0 rfl) ?_
    refine sc_V hB (fun q h => Or.inr h) hf (fun q9 h9 => rV_W (As := []) (rest := []) E hU hB sc9 (slt hsh hn 157 rfl) rfl ((mX7_keeps l K D G ad r _ n x hsh hn) _ _ h9) (cwGV 0 okX7_keeps wmX7_96 hts rfl rfl ⟨Nat.le_of_ble_eq_true rfl, Nat.le_of_ble_eq_true rfl⟩) rfl hl.1 (Nat.le_of_ble_eq_true rfl) dX7_dropGoal_43 ⟨Nat.zero_le _, Nat.zero_le _⟩ rfl) (fun v4 hf H locs hB => ?_)
    refine lv_aload_n hx hb dX7_dropGoal_46 rfl (lv_at hl 0 rfl) ?_
    refine s_getR (k := 0) (t := 158) E hU hB.1 sc9 (slt hsh hn 157 rfl) rfl inlX7 (Nat.le_of_ble_eq_true rfl) rfl rfl wkX7_9 (hsh.1 157 0 158 rfl) dX7_dropGoal_47 ?_
    refine lv_sipush (v := 280) hx hb dX7_dropGoal_50 rfl ?_
    refine lv_iload_n hx hb dX7_dropGoal_53 rfl (lv_at hl 1 rfl) ?_
    refine lv_iadd hx hb dX7_dropGoal_54 ?_
    refine lv_iconst (v := (-1)) hx hb dX7_dropGoal_55 rfl ?_
    refine s_iast E hU hB (slt hsh hn 158 rfl) rfl dX7_dropGoal_56 hf (fun v5 hf H locs hB => ?_)
    refine lv_iconst (v := 0) hx hb dX7_dropGoal_57 rfl ?_
    refine lv_istore_n (lv' := [(2, .int 0), (0, .ref (ad 157)), (1, .int x1)]) hx hb dX7_dropGoal_58 rfl hl (Nat.le_of_ble_eq_true rfl) rfl (fun ls hl => ?_)
    refine lv_iconst (v := 0) hx hb dX7_dropGoal_59 rfl ?_
    refine lv_istore_n (lv' := [(3, .int 0), (2, .int 0), (0, .ref (ad 157)), (1, .int x1)]) hx hb dX7_dropGoal_60 rfl hl (Nat.le_of_ble_eq_true rfl) rfl (fun ls hl => ?_)
    exact lX7_dropGoal_61 E hlocks hrt hU hsh hn hB _ _ _ _ hf (lv_sub hl [2, 3, 1, 0] rfl)
  · have hf := ite_f hf hc
    refine lv_iconst (v := 0) hx hb dX7_dropGoal_40 rfl ?_
    exact s_iretW E hrt hlocks hB hf dX7_dropGoal_41
set_option maxRecDepth 100000 in
set_option maxHeartbeats 4000000 in
theorem mX7_dropGoal (l : Launch) (K : Nat) (D : va_G) (G : Nat → ClassId) (ad : Nat → Nat) (r : sR) (v : sV) (n : Nat) (x : Int64 × UInt64) (hsh : sSh r) (hn : 172 ≤ n) (x1 : Int32) : sMI l yX7_dropGoal (.code yX7_dropGoal cX7_dropGoal 4 (some .int) :: wsL_law) rmX7_dropGoal D G ad r v n x [.ref (ad 157), .int x1] (fX7_dropGoal K x1 v) := by
  intro sz res hf
  refine Met.ofW (cc := cX7_dropGoal) (maxL := 4) (ret := (some .int)) (by decide) rfl ?_
  intro p e s m args below meth c s₁ B hml hv
  obtain ⟨rfl, rfl, hU, hP, hD⟩ := hv
  have hx := B.exec
  have hb := B.bytes
  have hrt := B.returns
  have hts : ∀ w ∈ wsL_law, w.before _ s = true := fun w hw => atoms_spec (ws := .code yX7_dropGoal cX7_dropGoal 4 (some .int) :: wsL_law) B.pre w (List.mem_cons_of_mem _ hw)
  have hlocks := B.notSynchronized
  have E : CallFix p m c cX7_dropGoal 4 s ([.ref (ad 157), .int x1] : List Value).toArray wsL_law RX7 := ⟨hx, hb, hml, findClass_of_methodNamed B.named, hts⟩
  have hB : sB D G (sA ad r n s.heap.size) s.heap ad r v n x s.heap [] := ⟨hP, sD_self hD, va_S.rf⟩
  have hl := lv_entry ([.ref (ad 157), .int x1]) (n := 4) (Nat.le_of_ble_eq_true rfl)
  rw [lg_entry_eq]
  generalize (lg_sl ([.ref (ad 157), .int x1]) ++ List.replicate (4 - (lg_sl ([.ref (ad 157), .int x1])).length) Slot.unset).toArray = ls at hl ⊢
  have hl : lv_has ls 4 [(0, .ref (ad 157)), (1, .int x1)] := hl
  have hf := (fX7_dropGoal.eq_1 ..).symm.trans hf
  refine lv_aload_n hx hb dX7_dropGoal_0 rfl (lv_at hl 0 rfl) ?_
  refine lv_iload_n hx hb dX7_dropGoal_1 rfl (lv_at hl 1 rfl) ?_
  refine sc_R hf (rS_S (As := [.int x1]) (rest := [.ref (ad 157)]) E (mX7_isGoal l x1) (cwGS 1 okX7_isGoal wmX7_99 hts rfl rfl ⟨Nat.le_of_ble_eq_true rfl, Nat.le_of_ble_eq_true rfl⟩) rfl hl.1 (Nat.le_of_ble_eq_true rfl) dX7_dropGoal_2 ⟨Nat.zero_le _, Nat.zero_le _⟩ rfl) (fun y1 hf => ?_)
  refine lv_if_ne (tgt := 12) hx hb dX7_dropGoal_5 rfl (fun hc => ?_) (fun hc => ?_)
  · have hf := ite_f hf hc
    refine lv_aload_n hx hb dX7_dropGoal_12 rfl (lv_at hl 0 rfl) ?_
    refine s_getR (k := 0) (t := 158) E hU hB.1 sc9 (slt hsh hn 157 rfl) rfl inlX7 (Nat.le_of_ble_eq_true rfl) rfl rfl wkX7_9 (hsh.1 157 0 158 rfl) dX7_dropGoal_13 ?_
    refine lv_sipush (v := 280) hx hb dX7_dropGoal_16 rfl ?_
    refine lv_iload_n hx hb dX7_dropGoal_19 rfl (lv_at hl 1 rfl) ?_
    refine lv_iadd hx hb dX7_dropGoal_20 ?_
    refine s_iald E hU hB.1 (slt hsh hn 158 rfl) rfl dX7_dropGoal_21 hf (fun y2 hf => ?_)
    refine lv_if_ge (tgt := 29) hx hb dX7_dropGoal_22 rfl (fun hc => ?_) (fun hc => ?_)
    · have hf := ite_t hf hc
      refine lv_iconst (v := 0) hx hb dX7_dropGoal_29 rfl ?_
      exact wX7_dropGoal_30 E hlocks hrt hU hsh hn hB hf (lv_sub hl [0, 1] rfl)
    · have hf := ite_f hf hc
      refine lv_iconst (v := 2) hx hb dX7_dropGoal_25 rfl ?_
      refine lv_goto (tgt := 30) hx hb dX7_dropGoal_26 rfl ?_
      exact wX7_dropGoal_30 E hlocks hrt hU hsh hn hB hf (lv_sub hl [0, 1] rfl)
  · have hf := ite_t hf hc
    refine lv_iconst (v := 1) hx hb dX7_dropGoal_8 rfl ?_
    refine lv_goto (tgt := 30) hx hb dX7_dropGoal_9 rfl ?_
    exact wX7_dropGoal_30 E hlocks hrt hU hsh hn hB hf (lv_sub hl [0, 1] rfl)
abbrev rmX7_wrongGoal : Room := { frames := 2, cells := 0, slots := 0, locals := 43 }
set_option maxRecDepth 100000 in
set_option maxHeartbeats 4000000 in
theorem mX7_wrongGoal (l : Launch) (D : va_G) (G : Nat → ClassId) (ad : Nat → Nat) (r : sR) (v : sV) (n : Nat) (x : Int64 × UInt64) (hsh : sSh r) (hn : 172 ≤ n) (x1 : Int32) (x2 : Int32) (x3 : Int32) : sMR l yX7_wrongGoal (.code yX7_wrongGoal cX7_wrongGoal 4 (some .int) :: wsL_law) rmX7_wrongGoal D G ad r v n x [.ref (ad 157), .int x1, .int x2, .int x3] (fX7_wrongGoal x1 x2 x3 v) := by
  intro res hf
  refine Met.ofW (cc := cX7_wrongGoal) (maxL := 4) (ret := (some .int)) (by decide) rfl ?_
  intro p e s m args below meth c s₁ B hml hv
  obtain ⟨rfl, hU, hP⟩ := hv
  have hx := B.exec
  have hb := B.bytes
  have hrt := B.returns
  have hts : ∀ w ∈ wsL_law, w.before _ s = true := fun w hw => atoms_spec (ws := .code yX7_wrongGoal cX7_wrongGoal 4 (some .int) :: wsL_law) B.pre w (List.mem_cons_of_mem _ hw)
  have hlocks := B.notSynchronized
  have E : CallFix p m c cX7_wrongGoal 4 s ([.ref (ad 157), .int x1, .int x2, .int x3] : List Value).toArray wsL_law RX7 := ⟨hx, hb, hml, findClass_of_methodNamed B.named, hts⟩
  have hl := lv_entry ([.ref (ad 157), .int x1, .int x2, .int x3]) (n := 4) (Nat.le_of_ble_eq_true rfl)
  rw [lg_entry_eq]
  generalize (lg_sl ([.ref (ad 157), .int x1, .int x2, .int x3]) ++ List.replicate (4 - (lg_sl ([.ref (ad 157), .int x1, .int x2, .int x3])).length) Slot.unset).toArray = ls at hl ⊢
  have hl : lv_has ls 4 [(0, .ref (ad 157)), (1, .int x1), (2, .int x2), (3, .int x3)] := hl
  have hf := (fX7_wrongGoal.eq_1 ..).symm.trans hf
  refine lv_iload_n hx hb dX7_wrongGoal_0 rfl (lv_at hl 1 rfl) ?_
  refine sc_R hf (rS_S (As := [.int x1]) (rest := []) E (mX7_isGoal l x1) (cwGS 1 okX7_isGoal wmX7_99 hts rfl rfl ⟨Nat.le_of_ble_eq_true rfl, Nat.le_of_ble_eq_true rfl⟩) rfl hl.1 (Nat.le_of_ble_eq_true rfl) dX7_wrongGoal_1 ⟨Nat.zero_le _, Nat.zero_le _⟩ rfl) (fun y1 hf => ?_)
  refine lv_if_eq (tgt := 15) hx hb dX7_wrongGoal_4 rfl (fun hc => ?_) (fun hc => ?_)
  · have hf := ite_t hf hc
    refine lv_iconst (v := 1) hx hb dX7_wrongGoal_15 rfl ?_
    refine lv_goto (tgt := 37) hx hb dX7_wrongGoal_16 rfl ?_
    exact s_iretR E hrt hlocks hf dX7_wrongGoal_37
  · have hf := ite_f hf hc
    refine lv_iload_n hx hb dX7_wrongGoal_7 rfl (lv_at hl 2 rfl) ?_
    refine lv_iload_n hx hb dX7_wrongGoal_8 rfl (lv_at hl 3 rfl) ?_
    refine sc_R hf (rS_S (As := [.int x2, .int x3]) (rest := []) E (mX7_isCell l x2 x3) (cwGS 2 okX7_isCell wmX7_62 hts rfl rfl ⟨Nat.le_of_ble_eq_true rfl, Nat.le_of_ble_eq_true rfl⟩) rfl hl.1 (Nat.le_of_ble_eq_true rfl) dX7_wrongGoal_9 ⟨Nat.zero_le _, Nat.zero_le _⟩ rfl) (fun y2 hf => ?_)
    refine lv_if_ne (tgt := 19) hx hb dX7_wrongGoal_12 rfl (fun hc => ?_) (fun hc => ?_)
    · have hf := ite_f hf hc
      refine lv_aload_n hx hb dX7_wrongGoal_19 rfl (lv_at hl 0 rfl) ?_
      refine s_getR (k := 0) (t := 158) E hU hP sc9 (slt hsh hn 157 rfl) rfl inlX7 (Nat.le_of_ble_eq_true rfl) rfl rfl wkX7_9 (hsh.1 157 0 158 rfl) dX7_wrongGoal_20 ?_
      refine lv_sipush (v := 280) hx hb dX7_wrongGoal_23 rfl ?_
      refine lv_iload_n hx hb dX7_wrongGoal_26 rfl (lv_at hl 1 rfl) ?_
      refine lv_iadd hx hb dX7_wrongGoal_27 ?_
      refine s_iald E hU hP (slt hsh hn 158 rfl) rfl dX7_wrongGoal_28 hf (fun y3 hf => ?_)
      refine lv_if_ge (tgt := 36) hx hb dX7_wrongGoal_29 rfl (fun hc => ?_) (fun hc => ?_)
      · have hf := ite_t hf hc
        refine lv_iconst (v := 0) hx hb dX7_wrongGoal_36 rfl ?_
        exact s_iretR E hrt hlocks hf dX7_wrongGoal_37
      · have hf := ite_f hf hc
        refine lv_iconst (v := 2) hx hb dX7_wrongGoal_32 rfl ?_
        refine lv_goto (tgt := 37) hx hb dX7_wrongGoal_33 rfl ?_
        exact s_iretR E hrt hlocks hf dX7_wrongGoal_37
    · have hf := ite_t hf hc
      refine lv_iconst (v := 1) hx hb dX7_wrongGoal_15 rfl ?_
      refine lv_goto (tgt := 37) hx hb dX7_wrongGoal_16 rfl ?_
      exact s_iretR E hrt hlocks hf dX7_wrongGoal_37
abbrev rmX7_distance : Room := { frames := 5, cells := 0, slots := 0, locals := 116 }
set_option maxRecDepth 100000 in
set_option maxHeartbeats 4000000 in
theorem mX7_distance (l : Launch) (K : Nat) (D : va_G) (G : Nat → ClassId) (ad : Nat → Nat) (r : sR) (v : sV) (n : Nat) (x : Int64 × UInt64) (hsh : sSh r) (hn : 172 ≤ n) (x1 : Int32) (x2 : Int32) (x3 : Int32) : sMI l yX7_distance (.code yX7_distance cX7_distance 4 (some .int) :: wsL_law) rmX7_distance D G ad r v n x [.ref (ad 157), .int x1, .int x2, .int x3] (fX7_distance K x1 x2 x3 v) := by
  intro sz res hf
  refine Met.ofW (cc := cX7_distance) (maxL := 4) (ret := (some .int)) (by decide) rfl ?_
  intro p e s m args below meth c s₁ B hml hv
  obtain ⟨rfl, rfl, hU, hP, hD⟩ := hv
  have hx := B.exec
  have hb := B.bytes
  have hrt := B.returns
  have hts : ∀ w ∈ wsL_law, w.before _ s = true := fun w hw => atoms_spec (ws := .code yX7_distance cX7_distance 4 (some .int) :: wsL_law) B.pre w (List.mem_cons_of_mem _ hw)
  have hlocks := B.notSynchronized
  have E : CallFix p m c cX7_distance 4 s ([.ref (ad 157), .int x1, .int x2, .int x3] : List Value).toArray wsL_law RX7 := ⟨hx, hb, hml, findClass_of_methodNamed B.named, hts⟩
  have hB : sB D G (sA ad r n s.heap.size) s.heap ad r v n x s.heap [] := ⟨hP, sD_self hD, va_S.rf⟩
  have hl := lv_entry ([.ref (ad 157), .int x1, .int x2, .int x3]) (n := 4) (Nat.le_of_ble_eq_true rfl)
  rw [lg_entry_eq]
  generalize (lg_sl ([.ref (ad 157), .int x1, .int x2, .int x3]) ++ List.replicate (4 - (lg_sl ([.ref (ad 157), .int x1, .int x2, .int x3])).length) Slot.unset).toArray = ls at hl ⊢
  have hl : lv_has ls 4 [(0, .ref (ad 157)), (1, .int x1), (2, .int x2), (3, .int x3)] := hl
  have hf := (fX7_distance.eq_1 ..).symm.trans hf
  refine lv_aload_n hx hb dX7_distance_0 rfl (lv_at hl 0 rfl) ?_
  refine lv_aload_n hx hb dX7_distance_1 rfl (lv_at hl 0 rfl) ?_
  refine lv_iload_n hx hb dX7_distance_2 rfl (lv_at hl 1 rfl) ?_
  refine lv_iload_n hx hb dX7_distance_3 rfl (lv_at hl 2 rfl) ?_
  refine lv_iload_n hx hb dX7_distance_4 rfl (lv_at hl 3 rfl) ?_
  refine sc_R hf (rV_R (As := [.int x1, .int x2, .int x3]) (rest := [.ref (ad 157)]) E hU hB.1 sc9 (slt hsh hn 157 rfl) rfl (mX7_wrongGoal l D G ad r _ n x hsh hn x1 x2 x3) (cwGV 3 okX7_wrongGoal wmX7_108 hts rfl rfl ⟨Nat.le_of_ble_eq_true rfl, Nat.le_of_ble_eq_true rfl⟩) rfl hl.1 (Nat.le_of_ble_eq_true rfl) dX7_distance_5 ⟨Nat.zero_le _, Nat.zero_le _⟩ rfl) (fun y1 hf => ?_)
  refine s_putI (k := 6) (ty1 := .int) E hU hB sc9 (slt hsh hn 157 rfl) rfl inlX7 (Nat.le_of_ble_eq_true rfl) rfl rfl wkX7_47 rfl rfl rfl rfl dX7_distance_8 hf (fun v2 hf H locs hB => ?_)
  refine lv_aload_n hx hb dX7_distance_11 rfl (lv_at hl 0 rfl) ?_
  refine s_getI (k := 6) E hU hB.1 sc9 (slt hsh hn 157 rfl) rfl inlX7 (Nat.le_of_ble_eq_true rfl) rfl rfl wkX7_47 dX7_distance_12 ?_
  refine lv_if_ne (tgt := 40) hx hb dX7_distance_15 rfl (fun hc => ?_) (fun hc => ?_)
  · have hf := ite_f hf hc
    refine lv_iconst (v := 0) hx hb dX7_distance_40 rfl ?_
    exact s_iretW E hrt hlocks hB hf dX7_distance_41
  · have hf := ite_t hf hc
    refine lv_aload_n hx hb dX7_distance_18 rfl (lv_at hl 0 rfl) ?_
    refine lv_aload_n hx hb dX7_distance_19 rfl (lv_at hl 0 rfl) ?_
    refine s_getR (k := 0) (t := 158) E hU hB.1 sc9 (slt hsh hn 157 rfl) rfl inlX7 (Nat.le_of_ble_eq_true rfl) rfl rfl wkX7_9 (hsh.1 157 0 158 rfl) dX7_distance_20 ?_
    refine lv_sipush (v := 280) hx hb dX7_distance_23 rfl ?_
    refine lv_iload_n hx hb dX7_distance_26 rfl (lv_at hl 1 rfl) ?_
    refine lv_iadd hx hb dX7_distance_27 ?_
    refine s_iald E hU hB.1 (slt hsh hn 158 rfl) rfl dX7_distance_28 hf (fun y3 hf => ?_)
    refine lv_iload_n hx hb dX7_distance_29 rfl (lv_at hl 2 rfl) ?_
    refine lv_iload_n hx hb dX7_distance_30 rfl (lv_at hl 3 rfl) ?_
    refine sc_R hf (rS_S (As := [.int x2, .int x3]) (rest := [.int y3, .ref (ad 157)]) E (mX7_cellAt l x2 x3) (cwGS 2 okX7_cellAt wmX7_66 hts rfl rfl ⟨Nat.le_of_ble_eq_true rfl, Nat.le_of_ble_eq_true rfl⟩) rfl hl.1 (Nat.le_of_ble_eq_true rfl) dX7_distance_31 ⟨Nat.zero_le _, Nat.zero_le _⟩ rfl) (fun y4 hf => ?_)
    refine sc_I hB (fun q h => Or.inr h) hf (fun q9 h9 => rV_W (As := [.int y3, .int y4]) (rest := []) E hU hB sc9 (slt hsh hn 157 rfl) rfl ((mX7_far l K D G ad r _ n x hsh hn y3 y4) _ _ h9) (cwGV 2 okX7_far wmX7_87 hts rfl rfl ⟨Nat.le_of_ble_eq_true rfl, Nat.le_of_ble_eq_true rfl⟩) rfl hl.1 (Nat.le_of_ble_eq_true rfl) dX7_distance_34 ⟨Nat.zero_le _, Nat.zero_le _⟩ rfl) (fun y6 v5 hf H locs hB => ?_)
    refine lv_goto (tgt := 41) hx hb dX7_distance_37 rfl ?_
    exact s_iretW E hrt hlocks hB hf dX7_distance_41
end
