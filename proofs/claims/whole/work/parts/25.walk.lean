section
variable {p : Program} {l : Launch} {e : Env} {s : State} {m : MethodId} {args : Array Value} {below : List Frame} {meth : Method} {c : Code}
variable {D : va_G} {G : Nat → ClassId} {ad : Nat → Nat} {r : sR} {n : Nat} {x : Int64 × UInt64}
abbrev rmX0_delay : Room := { frames := 0, cells := 0, slots := 0, locals := 0 }
set_option maxRecDepth 100000 in
set_option maxHeartbeats 4000000 in
theorem mX0_delay (l : Launch) (D : va_G) (G : Nat → ClassId) (ad : Nat → Nat) (r : sR) (v : sV) (n : Nat) (x : Int64 × UInt64) (hsh : sSh r) (hn : 172 ≤ n) (cq : Nat) (bq : Nat) (hcb : okC cq bq) (x1 : Int32) : sMV l yX0_delay (.code yX0_delay cX0_delay 2 none :: wsL_law) rmX0_delay D G ad r v n x [.ref (ad cq), .int x1] (fX0_delay cq bq x1 v) := by
  intro sz res hf
  refine Met.ofW (cc := cX0_delay) (maxL := 2) (ret := none) (by decide) rfl ?_
  intro p e s m args below meth c s₁ B hml hv
  obtain ⟨rfl, rfl, hU, hP, hD⟩ := hv
  have hx := B.exec
  have hb := B.bytes
  have hrt := B.returns
  have hts : ∀ w ∈ wsL_law, w.before _ s = true := fun w hw => atoms_spec (ws := .code yX0_delay cX0_delay 2 none :: wsL_law) B.pre w (List.mem_cons_of_mem _ hw)
  have hlocks := B.notSynchronized
  have E : CallFix p m c cX0_delay 2 s ([.ref (ad cq), .int x1] : List Value).toArray wsL_law RX0 := ⟨hx, hb, hml, findClass_of_methodNamed B.named, hts⟩
  have hB : sB D G (sA ad r n s.heap.size) s.heap ad r v n x s.heap [] := ⟨hP, sD_self hD, va_S.rf⟩
  have hl := lv_entry ([.ref (ad cq), .int x1]) (n := 2) (Nat.le_of_ble_eq_true rfl)
  rw [lg_entry_eq]
  generalize (lg_sl ([.ref (ad cq), .int x1]) ++ List.replicate (2 - (lg_sl ([.ref (ad cq), .int x1])).length) Slot.unset).toArray = ls at hl ⊢
  have hl : lv_has ls 2 [(0, .ref (ad cq)), (1, .int x1)] := hl
  have hf := (fX0_delay.eq_1 ..).symm.trans hf
  refine lv_aload_n hx hb dX0_delay_0 rfl (lv_at hl 0 rfl) ?_
  refine s_getR (k := 0) (t := bq) E hU hB.1 sc2 (okC_lt hsh hcb hn) (okC_k hcb) inlX0 (Nat.le_of_ble_eq_true rfl) rfl rfl wkX0_9 (hsh.1 _ _ _ (okC_r0 hcb)) dX0_delay_1 ?_
  refine s_getR (k := 7) (t := (bq + 8)) E hU hB.1 sc7 (okS_lt0 hsh (okC_S hcb) hn) (okS_k hsh (okC_S hcb)) inlX5 (Nat.le_of_ble_eq_true rfl) rfl rfl wkX0_93 (okS_r hsh (okC_S hcb) 7 rfl) dX0_delay_4 ?_
  refine lv_iload_n hx hb dX0_delay_7 rfl (lv_at hl 1 rfl) ?_
  refine lv_dup2_11 hx hb dX0_delay_8 rfl rfl ?_
  refine s_iald E hU hB.1 (okS_lt hsh (okC_S hcb) hn 8 rfl) (okS_kj hsh (okC_S hcb) 8 _ rfl) dX0_delay_9 hf (fun y1 hf => ?_)
  refine lv_iconst (v := 1) hx hb dX0_delay_10 rfl ?_
  refine lv_iadd hx hb dX0_delay_11 ?_
  refine s_iast E hU hB (okS_lt hsh (okC_S hcb) hn 8 rfl) (okS_kj hsh (okC_S hcb) 8 _ rfl) dX0_delay_12 hf (fun v2 hf H locs hB => ?_)
  refine lv_aload_n hx hb dX0_delay_13 rfl (lv_at hl 0 rfl) ?_
  refine s_getR (k := 0) (t := bq) E hU hB.1 sc2 (okC_lt hsh hcb hn) (okC_k hcb) inlX0 (Nat.le_of_ble_eq_true rfl) rfl rfl wkX0_9 (hsh.1 _ _ _ (okC_r0 hcb)) dX0_delay_14 ?_
  refine s_getR (k := 11) (t := (bq + 12)) E hU hB.1 sc7 (okS_lt0 hsh (okC_S hcb) hn) (okS_k hsh (okC_S hcb)) inlX5 (Nat.le_of_ble_eq_true rfl) rfl rfl wkX0_99 (okS_r hsh (okC_S hcb) 11 rfl) dX0_delay_17 ?_
  refine lv_iconst (v := 4) hx hb dX0_delay_20 rfl ?_
  refine lv_dup2_11 hx hb dX0_delay_21 rfl rfl ?_
  refine s_iald E hU hB.1 (okS_lt hsh (okC_S hcb) hn 12 rfl) (okS_kj hsh (okC_S hcb) 12 _ rfl) dX0_delay_22 hf (fun y3 hf => ?_)
  refine lv_iconst (v := 1) hx hb dX0_delay_23 rfl ?_
  refine lv_iadd hx hb dX0_delay_24 ?_
  refine s_iast E hU hB (okS_lt hsh (okC_S hcb) hn 12 rfl) (okS_kj hsh (okC_S hcb) 12 _ rfl) dX0_delay_25 hf (fun v4 hf H locs hB => ?_)
  exact s_vretW E hrt hlocks hB hf dX0_delay_26
abbrev rmX0_shift : Room := { frames := 1, cells := 0, slots := 0, locals := 21 }
set_option maxRecDepth 100000 in
set_option maxHeartbeats 4000000 in
theorem mX0_shift (l : Launch) (D : va_G) (G : Nat → ClassId) (ad : Nat → Nat) (r : sR) (v : sV) (n : Nat) (x : Int64 × UInt64) (hsh : sSh r) (hn : 172 ≤ n) (cq : Nat) (bq : Nat) (hcb : okC cq bq) (x1 : Int32) (x2 : Int32) : sMV l yX0_shift (.code yX0_shift cX0_shift 4 none :: wsL_law) rmX0_shift D G ad r v n x [.ref (ad cq), .int x1, .int x2] (fX0_shift cq bq x1 x2 v) := by
  intro sz res hf
  refine Met.ofW (cc := cX0_shift) (maxL := 4) (ret := none) (by decide) rfl ?_
  intro p e s m args below meth c s₁ B hml hv
  obtain ⟨rfl, rfl, hU, hP, hD⟩ := hv
  have hx := B.exec
  have hb := B.bytes
  have hrt := B.returns
  have hts : ∀ w ∈ wsL_law, w.before _ s = true := fun w hw => atoms_spec (ws := .code yX0_shift cX0_shift 4 none :: wsL_law) B.pre w (List.mem_cons_of_mem _ hw)
  have hlocks := B.notSynchronized
  have E : CallFix p m c cX0_shift 4 s ([.ref (ad cq), .int x1, .int x2] : List Value).toArray wsL_law RX0 := ⟨hx, hb, hml, findClass_of_methodNamed B.named, hts⟩
  have hB : sB D G (sA ad r n s.heap.size) s.heap ad r v n x s.heap [] := ⟨hP, sD_self hD, va_S.rf⟩
  have hl := lv_entry ([.ref (ad cq), .int x1, .int x2]) (n := 4) (Nat.le_of_ble_eq_true rfl)
  rw [lg_entry_eq]
  generalize (lg_sl ([.ref (ad cq), .int x1, .int x2]) ++ List.replicate (4 - (lg_sl ([.ref (ad cq), .int x1, .int x2])).length) Slot.unset).toArray = ls at hl ⊢
  have hl : lv_has ls 4 [(0, .ref (ad cq)), (1, .int x1), (2, .int x2)] := hl
  have hf := (fX0_shift.eq_1 ..).symm.trans hf
  refine lv_aload_n hx hb dX0_shift_0 rfl (lv_at hl 0 rfl) ?_
  refine s_getR (k := 0) (t := bq) E hU hB.1 sc2 (okC_lt hsh hcb hn) (okC_k hcb) inlX0 (Nat.le_of_ble_eq_true rfl) rfl rfl wkX0_9 (hsh.1 _ _ _ (okC_r0 hcb)) dX0_shift_1 ?_
  refine s_getR (k := 3) (t := (bq + 4)) E hU hB.1 sc7 (okS_lt0 hsh (okC_S hcb) hn) (okS_k hsh (okC_S hcb)) inlX5 (Nat.le_of_ble_eq_true rfl) rfl rfl wkX0_19 (okS_r hsh (okC_S hcb) 3 rfl) dX0_shift_4 ?_
  refine lv_iload_n hx hb dX0_shift_7 rfl (lv_at hl 1 rfl) ?_
  refine s_iald E hU hB.1 (okS_lt hsh (okC_S hcb) hn 4 rfl) (okS_kj hsh (okC_S hcb) 4 _ rfl) dX0_shift_8 hf (fun y1 hf => ?_)
  refine lv_iload_n hx hb dX0_shift_9 rfl (lv_at hl 2 rfl) ?_
  refine sc_R hf (rSN_S (As := [.int y1, .int x2]) (rest := []) E (mX6_neighborOf l y1 x2) (cwGN 2 okX6_neighborOf (hU.2.1 _ (List.mem_of_getElem? (i := 3) rfl)) hts rfl rfl ⟨Nat.le_of_ble_eq_true rfl, Nat.le_of_ble_eq_true rfl⟩) rfl hl.1 (Nat.le_of_ble_eq_true rfl) dX0_shift_10 ⟨Nat.zero_le _, Nat.zero_le _⟩ rfl) (fun y2 hf => ?_)
  refine lv_istore_n (lv' := [(3, .int y2), (0, .ref (ad cq)), (1, .int x1), (2, .int x2)]) hx hb dX0_shift_13 rfl hl (Nat.le_of_ble_eq_true rfl) rfl (fun ls hl => ?_)
  refine lv_iload_n hx hb dX0_shift_14 rfl (lv_at hl 0 rfl) ?_
  refine lv_iconst (v := (-1)) hx hb dX0_shift_15 rfl ?_
  refine lv_icmp_eq (tgt := 52) hx hb dX0_shift_16 rfl (fun hc => ?_) (fun hc => ?_)
  · have hf := ite_t hf hc
    exact s_vretW E hrt hlocks hB hf dX0_shift_52
  · have hf := ite_f hf hc
    refine lv_aload_n hx hb dX0_shift_19 rfl (lv_at hl 1 rfl) ?_
    refine s_getR (k := 0) (t := bq) E hU hB.1 sc2 (okC_lt hsh hcb hn) (okC_k hcb) inlX0 (Nat.le_of_ble_eq_true rfl) rfl rfl wkX0_9 (hsh.1 _ _ _ (okC_r0 hcb)) dX0_shift_20 ?_
    refine s_getR (k := 3) (t := (bq + 4)) E hU hB.1 sc7 (okS_lt0 hsh (okC_S hcb) hn) (okS_k hsh (okC_S hcb)) inlX5 (Nat.le_of_ble_eq_true rfl) rfl rfl wkX0_19 (okS_r hsh (okC_S hcb) 3 rfl) dX0_shift_23 ?_
    refine lv_iload_n hx hb dX0_shift_26 rfl (lv_at hl 2 rfl) ?_
    refine lv_iload_n hx hb dX0_shift_27 rfl (lv_at hl 0 rfl) ?_
    refine s_iast E hU hB (okS_lt hsh (okC_S hcb) hn 4 rfl) (okS_kj hsh (okC_S hcb) 4 _ rfl) dX0_shift_28 hf (fun v3 hf H locs hB => ?_)
    refine lv_aload_n hx hb dX0_shift_29 rfl (lv_at hl 1 rfl) ?_
    refine s_getR (k := 0) (t := bq) E hU hB.1 sc2 (okC_lt hsh hcb hn) (okC_k hcb) inlX0 (Nat.le_of_ble_eq_true rfl) rfl rfl wkX0_9 (hsh.1 _ _ _ (okC_r0 hcb)) dX0_shift_30 ?_
    refine s_getR (k := 6) (t := (bq + 7)) E hU hB.1 sc7 (okS_lt0 hsh (okC_S hcb) hn) (okS_k hsh (okC_S hcb)) inlX5 (Nat.le_of_ble_eq_true rfl) rfl rfl wkX0_70 (okS_r hsh (okC_S hcb) 6 rfl) dX0_shift_33 ?_
    refine lv_iload_n hx hb dX0_shift_36 rfl (lv_at hl 2 rfl) ?_
    refine lv_iload_n hx hb dX0_shift_37 rfl (lv_at hl 3 rfl) ?_
    refine s_iast E hU hB (okS_lt hsh (okC_S hcb) hn 7 rfl) (okS_kj hsh (okC_S hcb) 7 _ rfl) dX0_shift_38 hf (fun v4 hf H locs hB => ?_)
    refine lv_aload_n hx hb dX0_shift_39 rfl (lv_at hl 1 rfl) ?_
    refine s_getR (k := 0) (t := bq) E hU hB.1 sc2 (okC_lt hsh hcb hn) (okC_k hcb) inlX0 (Nat.le_of_ble_eq_true rfl) rfl rfl wkX0_9 (hsh.1 _ _ _ (okC_r0 hcb)) dX0_shift_40 ?_
    refine s_getR (k := 1) (t := (bq + 2)) E hU hB.1 sc7 (okS_lt0 hsh (okC_S hcb) hn) (okS_k hsh (okC_S hcb)) inlX5 (Nat.le_of_ble_eq_true rfl) rfl rfl wkX0_141 (okS_r hsh (okC_S hcb) 1 rfl) dX0_shift_43 ?_
    refine lv_iload_n hx hb dX0_shift_46 rfl (lv_at hl 0 rfl) ?_
    refine lv_dup2_11 hx hb dX0_shift_47 rfl rfl ?_
    refine s_iald E hU hB.1 (okS_lt hsh (okC_S hcb) hn 2 rfl) (okS_kj hsh (okC_S hcb) 2 _ rfl) dX0_shift_48 hf (fun y5 hf => ?_)
    refine lv_iconst (v := 1) hx hb dX0_shift_49 rfl ?_
    refine lv_iadd hx hb dX0_shift_50 ?_
    refine s_iast E hU hB (okS_lt hsh (okC_S hcb) hn 2 rfl) (okS_kj hsh (okC_S hcb) 2 _ rfl) dX0_shift_51 hf (fun v6 hf H locs hB => ?_)
    exact s_vretW E hrt hlocks hB hf dX0_shift_52
abbrev rmX0_advance : Room := { frames := 2, cells := 0, slots := 0, locals := 44 }
set_option maxRecDepth 100000 in
set_option maxHeartbeats 4000000 in
theorem mX0_advance (l : Launch) (D : va_G) (G : Nat → ClassId) (ad : Nat → Nat) (r : sR) (v : sV) (n : Nat) (x : Int64 × UInt64) (hsh : sSh r) (hn : 172 ≤ n) (cq : Nat) (bq : Nat) (hcb : okC cq bq) (x1 : Int32) (x2 : Int32) : sMV l yX0_advance (.code yX0_advance cX0_advance 3 none :: wsL_law) rmX0_advance D G ad r v n x [.ref (ad cq), .int x1, .int x2] (fX0_advance cq bq x1 x2 v) := by
  intro sz res hf
  refine Met.ofW (cc := cX0_advance) (maxL := 3) (ret := none) (by decide) rfl ?_
  intro p e s m args below meth c s₁ B hml hv
  obtain ⟨rfl, rfl, hU, hP, hD⟩ := hv
  have hx := B.exec
  have hb := B.bytes
  have hrt := B.returns
  have hts : ∀ w ∈ wsL_law, w.before _ s = true := fun w hw => atoms_spec (ws := .code yX0_advance cX0_advance 3 none :: wsL_law) B.pre w (List.mem_cons_of_mem _ hw)
  have hlocks := B.notSynchronized
  have E : CallFix p m c cX0_advance 3 s ([.ref (ad cq), .int x1, .int x2] : List Value).toArray wsL_law RX0 := ⟨hx, hb, hml, findClass_of_methodNamed B.named, hts⟩
  have hB : sB D G (sA ad r n s.heap.size) s.heap ad r v n x s.heap [] := ⟨hP, sD_self hD, va_S.rf⟩
  have hl := lv_entry ([.ref (ad cq), .int x1, .int x2]) (n := 3) (Nat.le_of_ble_eq_true rfl)
  rw [lg_entry_eq]
  generalize (lg_sl ([.ref (ad cq), .int x1, .int x2]) ++ List.replicate (3 - (lg_sl ([.ref (ad cq), .int x1, .int x2])).length) Slot.unset).toArray = ls at hl ⊢
  have hl : lv_has ls 3 [(0, .ref (ad cq)), (1, .int x1), (2, .int x2)] := hl
  have hf := (fX0_advance.eq_1 ..).symm.trans hf
  refine lv_aload_n hx hb dX0_advance_0 rfl (lv_at hl 0 rfl) ?_
  refine lv_iload_n hx hb dX0_advance_1 rfl (lv_at hl 1 rfl) ?_
  refine lv_iload_n hx hb dX0_advance_2 rfl (lv_at hl 2 rfl) ?_
  refine sc_V hB (fun q h => Or.inr h) hf (fun q9 h9 => rV_W (As := [.int x1, .int x2]) (rest := []) E hU hB sc2 (okC_lt hsh hcb hn) (okC_k hcb) ((mX0_shift l D G ad r _ n x hsh hn cq bq hcb x1 x2) _ _ h9) (cwGV 2 okX0_shift wmX0_138 hts rfl rfl ⟨Nat.le_of_ble_eq_true rfl, Nat.le_of_ble_eq_true rfl⟩) rfl hl.1 (Nat.le_of_ble_eq_true rfl) dX0_advance_3 ⟨Nat.zero_le _, Nat.zero_le _⟩ rfl) (fun v1 hf H locs hB => ?_)
  refine lv_aload_n hx hb dX0_advance_6 rfl (lv_at hl 0 rfl) ?_
  refine s_getR (k := 0) (t := bq) E hU hB.1 sc2 (okC_lt hsh hcb hn) (okC_k hcb) inlX0 (Nat.le_of_ble_eq_true rfl) rfl rfl wkX0_9 (hsh.1 _ _ _ (okC_r0 hcb)) dX0_advance_7 ?_
  refine s_getR (k := 7) (t := (bq + 8)) E hU hB.1 sc7 (okS_lt0 hsh (okC_S hcb) hn) (okS_k hsh (okC_S hcb)) inlX5 (Nat.le_of_ble_eq_true rfl) rfl rfl wkX0_93 (okS_r hsh (okC_S hcb) 7 rfl) dX0_advance_10 ?_
  refine lv_iload_n hx hb dX0_advance_13 rfl (lv_at hl 1 rfl) ?_
  refine lv_iconst (v := 0) hx hb dX0_advance_14 rfl ?_
  refine s_iast E hU hB (okS_lt hsh (okC_S hcb) hn 8 rfl) (okS_kj hsh (okC_S hcb) 8 _ rfl) dX0_advance_15 hf (fun v2 hf H locs hB => ?_)
  refine lv_aload_n hx hb dX0_advance_16 rfl (lv_at hl 0 rfl) ?_
  refine s_getR (k := 0) (t := bq) E hU hB.1 sc2 (okC_lt hsh hcb hn) (okC_k hcb) inlX0 (Nat.le_of_ble_eq_true rfl) rfl rfl wkX0_9 (hsh.1 _ _ _ (okC_r0 hcb)) dX0_advance_17 ?_
  refine s_getR (k := 11) (t := (bq + 12)) E hU hB.1 sc7 (okS_lt0 hsh (okC_S hcb) hn) (okS_k hsh (okC_S hcb)) inlX5 (Nat.le_of_ble_eq_true rfl) rfl rfl wkX0_99 (okS_r hsh (okC_S hcb) 11 rfl) dX0_advance_20 ?_
  refine lv_iconst (v := 1) hx hb dX0_advance_23 rfl ?_
  refine lv_dup2_11 hx hb dX0_advance_24 rfl rfl ?_
  refine s_iald E hU hB.1 (okS_lt hsh (okC_S hcb) hn 12 rfl) (okS_kj hsh (okC_S hcb) 12 _ rfl) dX0_advance_25 hf (fun y3 hf => ?_)
  refine lv_iconst (v := 1) hx hb dX0_advance_26 rfl ?_
  refine lv_iadd hx hb dX0_advance_27 ?_
  refine s_iast E hU hB (okS_lt hsh (okC_S hcb) hn 12 rfl) (okS_kj hsh (okC_S hcb) 12 _ rfl) dX0_advance_28 hf (fun v4 hf H locs hB => ?_)
  exact s_vretW E hrt hlocks hB hf dX0_advance_29
abbrev rmX1_distanceOf : Room := { frames := 0, cells := 0, slots := 0, locals := 0 }
set_option maxRecDepth 100000 in
set_option maxHeartbeats 4000000 in
theorem mX1_distanceOf (l : Launch) (D : va_G) (G : Nat → ClassId) (ad : Nat → Nat) (r : sR) (v : sV) (n : Nat) (x : Int64 × UInt64) (hsh : sSh r) (hn : 172 ≤ n) (fq : Nat) (hfq : okF r n fq) (x1 : Int32) : sMR l yX1_distanceOf (.code yX1_distanceOf cX1_distanceOf 2 (some .int) :: wsL_law) rmX1_distanceOf D G ad r v n x [.ref (ad fq), .int x1] (fX1_distanceOf fq x1 v) := by
  intro res hf
  refine Met.ofW (cc := cX1_distanceOf) (maxL := 2) (ret := (some .int)) (by decide) rfl ?_
  intro p e s m args below meth c s₁ B hml hv
  obtain ⟨rfl, hU, hP⟩ := hv
  have hx := B.exec
  have hb := B.bytes
  have hrt := B.returns
  have hts : ∀ w ∈ wsL_law, w.before _ s = true := fun w hw => atoms_spec (ws := .code yX1_distanceOf cX1_distanceOf 2 (some .int) :: wsL_law) B.pre w (List.mem_cons_of_mem _ hw)
  have hlocks := B.notSynchronized
  have E : CallFix p m c cX1_distanceOf 2 s ([.ref (ad fq), .int x1] : List Value).toArray wsL_law RX1 := ⟨hx, hb, hml, findClass_of_methodNamed B.named, hts⟩
  have hl := lv_entry ([.ref (ad fq), .int x1]) (n := 2) (Nat.le_of_ble_eq_true rfl)
  rw [lg_entry_eq]
  generalize (lg_sl ([.ref (ad fq), .int x1]) ++ List.replicate (2 - (lg_sl ([.ref (ad fq), .int x1])).length) Slot.unset).toArray = ls at hl ⊢
  have hl : lv_has ls 2 [(0, .ref (ad fq)), (1, .int x1)] := hl
  have hf := (fX1_distanceOf.eq_1 ..).symm.trans hf
  refine lv_iload_n hx hb dX1_distanceOf_0 rfl (lv_at hl 1 rfl) ?_
  refine lv_if_lt (tgt := 20) hx hb dX1_distanceOf_1 rfl (fun hc => ?_) (fun hc => ?_)
  · have hf := ite_t hf hc
    refine lv_iconst (v := (-1)) hx hb dX1_distanceOf_20 rfl ?_
    exact s_iretR E hrt hlocks hf dX1_distanceOf_21
  · have hf := ite_f hf hc
    refine lv_iload_n hx hb dX1_distanceOf_4 rfl (lv_at hl 1 rfl) ?_
    refine lv_sipush (v := 140) hx hb dX1_distanceOf_5 rfl ?_
    refine lv_icmp_ge (tgt := 20) hx hb dX1_distanceOf_8 rfl (fun hc => ?_) (fun hc => ?_)
    · have hf := ite_t hf hc
      refine lv_iconst (v := (-1)) hx hb dX1_distanceOf_20 rfl ?_
      exact s_iretR E hrt hlocks hf dX1_distanceOf_21
    · have hf := ite_f hf hc
      refine lv_aload_n hx hb dX1_distanceOf_11 rfl (lv_at hl 0 rfl) ?_
      refine s_getR (k := 0) (t := (fq + 1)) E hU hP sc3 (okF_lt hfq) (okF_k hfq) inlX1 (Nat.le_of_ble_eq_true rfl) rfl rfl wkX1_9 hfq.2.1 dX1_distanceOf_12 ?_
      refine lv_iload_n hx hb dX1_distanceOf_15 rfl (lv_at hl 1 rfl) ?_
      refine s_iald E hU hP (okF_lt1 hfq) (okF_k1 hfq) dX1_distanceOf_16 hf (fun y1 hf => ?_)
      refine lv_goto (tgt := 21) hx hb dX1_distanceOf_17 rfl ?_
      exact s_iretR E hrt hlocks hf dX1_distanceOf_21
abbrev rmX0_bestFreeDirection : Room := { frames := 2, cells := 0, slots := 0, locals := 43 }
set_option maxRecDepth 100000 in
set_option maxHeartbeats 4000000 in
theorem wX0_bestFreeDirection_56 {K : Nat} {cq : Nat} {bq : Nat} {fq : Nat} {x1 : Int32} {x4 : Int32} {x5 : Int32} {x6 : Int32} {t0 : Int32} {k11 : Int32 → Int32 → Int32 → Option Int32} {res : Int32} (E : CallFix p m c cX0_bestFreeDirection 9 s args wsL_law RX0) (hlocks : meth.locks = false) (hrt : meth.sig.returnType = (some .int)) (hU : sU D G s) (hsh : sSh r) (hn : 172 ≤ n) (hcb : okC cq bq) (hfq : okF r n fq) {v : sV} (hP : va_P D vwCl (sWl G ad r v n x) s.heap) (ih11 : ∀ (x4 : Int32) (x5 : Int32) (x6 : Int32) (ls : Array Slot), k11 x4 x5 x6 = some res → lv_has ls 9 [(0, .ref (ad cq)), (1, .int x1), (2, .ref (ad fq)), (4, .int x4), (5, .int x5), (6, .int x6)] → W p l e rmX0_bestFreeDirection s m args below meth c s.heap [] 0 0 (MQ below (vp_Si (fun q => q = res)) args s 0 0 (fun _ => False)) (F0 m 11 ls [])) {ls : Array Slot} (hf : bX0_bestFreeDirection_56 K cq bq fq k11 x1 x4 x5 x6 t0 v = some res) (hl : lv_has ls 9 [(0, .ref (ad cq)), (1, .int x1), (2, .ref (ad fq)), (4, .int x4), (5, .int x5), (6, .int x6)]) :
    W p l e rmX0_bestFreeDirection s m args below meth c s.heap [] 0 0 (MQ below (vp_Si (fun q => q = res)) args s 0 0 (fun _ => False)) (F0 m 56 ls [.int t0]) := by
  have hx := E.1
  have hb := E.2.1
  have hts := E.2.2.2.2
  have hf := (bX0_bestFreeDirection_56.eq_1 ..).symm.trans hf
  refine lv_istore (lv' := [(8, .int t0), (0, .ref (ad cq)), (1, .int x1), (2, .ref (ad fq)), (4, .int x4), (5, .int x5), (6, .int x6)]) hx hb dX0_bestFreeDirection_56 hl (Nat.le_of_ble_eq_true rfl) rfl (fun ls hl => ?_)
  refine lv_iload hx hb dX0_bestFreeDirection_58 (lv_at hl 0 rfl) ?_
  refine lv_iload hx hb dX0_bestFreeDirection_60 (lv_at hl 5 rfl) ?_
  refine lv_icmp_ge (tgt := 73) hx hb dX0_bestFreeDirection_62 rfl (fun hc => ?_) (fun hc => ?_)
  · have hf := ite_t hf hc
    obtain ⟨z6, ez9, hf⟩ := nm_x hf
    refine lv_iinc (v := z6) (lv' := [(6, .int z6), (8, .int t0), (0, .ref (ad cq)), (1, .int x1), (2, .ref (ad fq)), (4, .int x4), (5, .int x5)]) hx hb dX0_bestFreeDirection_73 hl (k := 6) rfl (by rw [ez9]; rfl) (Nat.le_of_ble_eq_true rfl) rfl (fun ls hl => ?_)
    refine lv_goto (tgt := 11) hx hb dX0_bestFreeDirection_76 rfl ?_
    exact ih11 _ _ _ _ hf (lv_sub hl [2, 3, 4, 5, 6, 0] rfl)
  · have hf := ite_f hf hc
    refine lv_iload hx hb dX0_bestFreeDirection_65 (lv_at hl 6 rfl) ?_
    refine lv_istore (lv' := [(4, .int x6), (8, .int t0), (0, .ref (ad cq)), (1, .int x1), (2, .ref (ad fq)), (5, .int x5), (6, .int x6)]) hx hb dX0_bestFreeDirection_67 hl (Nat.le_of_ble_eq_true rfl) rfl (fun ls hl => ?_)
    refine lv_iload hx hb dX0_bestFreeDirection_69 (lv_at hl 1 rfl) ?_
    refine lv_istore (lv' := [(5, .int t0), (4, .int x6), (8, .int t0), (0, .ref (ad cq)), (1, .int x1), (2, .ref (ad fq)), (6, .int x6)]) hx hb dX0_bestFreeDirection_71 hl (Nat.le_of_ble_eq_true rfl) rfl (fun ls hl => ?_)
    obtain ⟨z7, ez9, hf⟩ := nm_x hf
    refine lv_iinc (v := z7) (lv' := [(6, .int z7), (5, .int t0), (4, .int x6), (8, .int t0), (0, .ref (ad cq)), (1, .int x1), (2, .ref (ad fq))]) hx hb dX0_bestFreeDirection_73 hl (k := 6) rfl (by rw [ez9]; rfl) (Nat.le_of_ble_eq_true rfl) rfl (fun ls hl => ?_)
    refine lv_goto (tgt := 11) hx hb dX0_bestFreeDirection_76 rfl ?_
    exact ih11 _ _ _ _ hf (lv_sub hl [4, 5, 6, 2, 1, 0] rfl)
set_option maxRecDepth 100000 in
set_option maxHeartbeats 4000000 in
theorem lX0_bestFreeDirection_11 {K : Nat} {cq : Nat} {bq : Nat} {fq : Nat} {x1 : Int32} {res : Int32} (E : CallFix p m c cX0_bestFreeDirection 9 s args wsL_law RX0) (hlocks : meth.locks = false) (hrt : meth.sig.returnType = (some .int)) (hU : sU D G s) (hsh : sSh r) (hn : 172 ≤ n) (hcb : okC cq bq) (hfq : okF r n fq) {v : sV} (hP : va_P D vwCl (sWl G ad r v n x) s.heap) :
    ∀ (k : Nat) (x4 : Int32) (x5 : Int32) (x6 : Int32) (ls : Array Slot), fx3 (gX0_bestFreeDirection_11 K cq bq fq x1 v) k x4 x5 x6 = some res → lv_has ls 9 [(0, .ref (ad cq)), (1, .int x1), (2, .ref (ad fq)), (4, .int x4), (5, .int x5), (6, .int x6)] → W p l e rmX0_bestFreeDirection s m args below meth c s.heap [] 0 0 (MQ below (vp_Si (fun q => q = res)) args s 0 0 (fun _ => False)) (F0 m 11 ls []) := by
  have hx := E.1
  have hb := E.2.1
  have hts := E.2.2.2.2
  intro k
  induction k with
  | zero =>
    intro x4 x5 x6 ls hf hl
    exact fx3_z hf
  | succ k ih =>
    intro x4 x5 x6 ls hf hl
    have hf := (gX0_bestFreeDirection_11.eq_1 ..).symm.trans hf
    refine lv_iload hx hb dX0_bestFreeDirection_11 (lv_at hl 5 rfl) ?_
    refine lv_iconst (v := 4) hx hb dX0_bestFreeDirection_13 rfl ?_
    refine lv_icmp_ge (tgt := 79) hx hb dX0_bestFreeDirection_14 rfl (fun hc => ?_) (fun hc => ?_)
    · have hf := ite_t hf hc
      refine lv_iload hx hb dX0_bestFreeDirection_79 (lv_at hl 3 rfl) ?_
      exact s_iretR E hrt hlocks hf dX0_bestFreeDirection_81
    · have hf := ite_f hf hc
      refine lv_iload_n hx hb dX0_bestFreeDirection_17 rfl (lv_at hl 1 rfl) ?_
      refine lv_iload hx hb dX0_bestFreeDirection_18 (lv_at hl 5 rfl) ?_
      refine sc_R hf (rSN_S (As := [.int x1, .int x6]) (rest := []) E (mX6_neighborOf l x1 x6) (cwGN 2 okX6_neighborOf (hU.2.1 _ (List.mem_of_getElem? (i := 3) rfl)) hts rfl rfl ⟨Nat.le_of_ble_eq_true rfl, Nat.le_of_ble_eq_true rfl⟩) rfl hl.1 (Nat.le_of_ble_eq_true rfl) dX0_bestFreeDirection_20 ⟨Nat.zero_le _, Nat.zero_le _⟩ rfl) (fun y2 hf => ?_)
      refine lv_istore (lv' := [(7, .int y2), (0, .ref (ad cq)), (1, .int x1), (2, .ref (ad fq)), (4, .int x4), (5, .int x5), (6, .int x6)]) hx hb dX0_bestFreeDirection_23 hl (Nat.le_of_ble_eq_true rfl) rfl (fun ls hl => ?_)
      refine lv_aload_n hx hb dX0_bestFreeDirection_25 rfl (lv_at hl 1 rfl) ?_
      refine lv_iload hx hb dX0_bestFreeDirection_26 (lv_at hl 0 rfl) ?_
      refine sc_R hf (rV_R (As := [.int y2]) (rest := []) E hU hP sc2 (okC_lt hsh hcb hn) (okC_k hcb) (mX0_isFree l K D G ad r _ n x hsh hn cq bq hcb y2) (cwGV 1 okX0_isFree wmX0_151 hts rfl rfl ⟨Nat.le_of_ble_eq_true rfl, Nat.le_of_ble_eq_true rfl⟩) rfl hl.1 (Nat.le_of_ble_eq_true rfl) dX0_bestFreeDirection_28 ⟨Nat.zero_le _, Nat.zero_le _⟩ rfl) (fun y3 hf => ?_)
      refine lv_if_eq (tgt := 73) hx hb dX0_bestFreeDirection_31 rfl (fun hc => ?_) (fun hc => ?_)
      · have hf := ite_t hf hc
        obtain ⟨z4, ez9, hf⟩ := nm_x hf
        refine lv_iinc (v := z4) (lv' := [(6, .int z4), (7, .int y2), (0, .ref (ad cq)), (1, .int x1), (2, .ref (ad fq)), (4, .int x4), (5, .int x5)]) hx hb dX0_bestFreeDirection_73 hl (k := 6) rfl (by rw [ez9]; rfl) (Nat.le_of_ble_eq_true rfl) rfl (fun ls hl => ?_)
        refine lv_goto (tgt := 11) hx hb dX0_bestFreeDirection_76 rfl ?_
        exact ih _ _ _ _ hf (lv_sub hl [2, 3, 4, 5, 6, 0] rfl)
      · have hf := ite_f hf hc
        refine lv_aload_n hx hb dX0_bestFreeDirection_34 rfl (lv_at hl 3 rfl) ?_
        refine lv_iload hx hb dX0_bestFreeDirection_35 (lv_at hl 0 rfl) ?_
        refine sc_R hf (rV_R (As := [.int y2]) (rest := []) E hU hP sc3 (okF_lt hfq) (okF_k hfq) (mX1_distanceOf l D G ad r _ n x hsh hn fq hfq y2) (cwGV 1 okX1_distanceOf wmX0_85 hts rfl rfl ⟨Nat.le_of_ble_eq_true rfl, Nat.le_of_ble_eq_true rfl⟩) rfl hl.1 (Nat.le_of_ble_eq_true rfl) dX0_bestFreeDirection_37 ⟨Nat.zero_le _, Nat.zero_le _⟩ rfl) (fun y5 hf => ?_)
        refine lv_istore (lv' := [(8, .int y5), (7, .int y2), (0, .ref (ad cq)), (1, .int x1), (2, .ref (ad fq)), (4, .int x4), (5, .int x5), (6, .int x6)]) hx hb dX0_bestFreeDirection_40 hl (Nat.le_of_ble_eq_true rfl) rfl (fun ls hl => ?_)
        refine lv_iload hx hb dX0_bestFreeDirection_42 (lv_at hl 0 rfl) ?_
        refine lv_iconst (v := (-1)) hx hb dX0_bestFreeDirection_44 rfl ?_
        refine lv_icmp_ne (tgt := 54) hx hb dX0_bestFreeDirection_45 rfl (fun hc => ?_) (fun hc => ?_)
        · have hf := ite_f hf hc
          refine lv_iload hx hb dX0_bestFreeDirection_54 (lv_at hl 0 rfl) ?_
          exact wX0_bestFreeDirection_56 E hlocks hrt hU hsh hn hcb hfq hP ih hf (lv_sub hl [2, 3, 4, 5, 6, 7] rfl)
        · have hf := ite_t hf hc
          refine lv_sipush (v := 9999) hx hb dX0_bestFreeDirection_48 rfl ?_
          refine lv_goto (tgt := 56) hx hb dX0_bestFreeDirection_51 rfl ?_
          exact wX0_bestFreeDirection_56 E hlocks hrt hU hsh hn hcb hfq hP ih hf (lv_sub hl [2, 3, 4, 5, 6, 7] rfl)
set_option maxRecDepth 100000 in
set_option maxHeartbeats 4000000 in
theorem mX0_bestFreeDirection (l : Launch) (K : Nat) (D : va_G) (G : Nat → ClassId) (ad : Nat → Nat) (r : sR) (v : sV) (n : Nat) (x : Int64 × UInt64) (hsh : sSh r) (hn : 172 ≤ n) (cq : Nat) (bq : Nat) (fq : Nat) (hcb : okC cq bq) (hfq : okF r n fq) (x1 : Int32) (x3 : Int32) : sMR l yX0_bestFreeDirection (.code yX0_bestFreeDirection cX0_bestFreeDirection 9 (some .int) :: wsL_law) rmX0_bestFreeDirection D G ad r v n x [.ref (ad cq), .int x1, .ref (ad fq), .int x3] (fX0_bestFreeDirection K cq bq fq x1 x3 v) := by
  intro res hf
  refine Met.ofW (cc := cX0_bestFreeDirection) (maxL := 9) (ret := (some .int)) (by decide) rfl ?_
  intro p e s m args below meth c s₁ B hml hv
  obtain ⟨rfl, hU, hP⟩ := hv
  have hx := B.exec
  have hb := B.bytes
  have hrt := B.returns
  have hts : ∀ w ∈ wsL_law, w.before _ s = true := fun w hw => atoms_spec (ws := .code yX0_bestFreeDirection cX0_bestFreeDirection 9 (some .int) :: wsL_law) B.pre w (List.mem_cons_of_mem _ hw)
  have hlocks := B.notSynchronized
  have E : CallFix p m c cX0_bestFreeDirection 9 s ([.ref (ad cq), .int x1, .ref (ad fq), .int x3] : List Value).toArray wsL_law RX0 := ⟨hx, hb, hml, findClass_of_methodNamed B.named, hts⟩
  have hl := lv_entry ([.ref (ad cq), .int x1, .ref (ad fq), .int x3]) (n := 9) (Nat.le_of_ble_eq_true rfl)
  rw [lg_entry_eq]
  generalize (lg_sl ([.ref (ad cq), .int x1, .ref (ad fq), .int x3]) ++ List.replicate (9 - (lg_sl ([.ref (ad cq), .int x1, .ref (ad fq), .int x3])).length) Slot.unset).toArray = ls at hl ⊢
  have hl : lv_has ls 9 [(0, .ref (ad cq)), (1, .int x1), (2, .ref (ad fq)), (3, .int x3)] := hl
  have hf := (fX0_bestFreeDirection.eq_1 ..).symm.trans hf
  refine lv_iconst (v := (-1)) hx hb dX0_bestFreeDirection_0 rfl ?_
  refine lv_istore (lv' := [(4, .int (-1)), (0, .ref (ad cq)), (1, .int x1), (2, .ref (ad fq)), (3, .int x3)]) hx hb dX0_bestFreeDirection_1 hl (Nat.le_of_ble_eq_true rfl) rfl (fun ls hl => ?_)
  refine lv_iload_n hx hb dX0_bestFreeDirection_3 rfl (lv_at hl 4 rfl) ?_
  refine lv_iconst (v := 1) hx hb dX0_bestFreeDirection_4 rfl ?_
  refine lv_iadd hx hb dX0_bestFreeDirection_5 ?_
  refine s_nm hf (fun z1 hf => ?_)
  refine lv_istore (lv' := [(5, .int z1), (4, .int (-1)), (0, .ref (ad cq)), (1, .int x1), (2, .ref (ad fq)), (3, .int x3)]) hx hb dX0_bestFreeDirection_6 hl (Nat.le_of_ble_eq_true rfl) rfl (fun ls hl => ?_)
  refine lv_iconst (v := 0) hx hb dX0_bestFreeDirection_8 rfl ?_
  refine lv_istore (lv' := [(6, .int 0), (5, .int z1), (4, .int (-1)), (0, .ref (ad cq)), (1, .int x1), (2, .ref (ad fq)), (3, .int x3)]) hx hb dX0_bestFreeDirection_9 hl (Nat.le_of_ble_eq_true rfl) rfl (fun ls hl => ?_)
  exact lX0_bestFreeDirection_11 E hlocks hrt hU hsh hn hcb hfq hP _ _ _ _ _ hf (lv_sub hl [3, 4, 5, 2, 1, 0] rfl)
abbrev rmX0_detourOf : Room := { frames := 3, cells := 0, slots := 0, locals := 71 }
set_option maxRecDepth 100000 in
set_option maxHeartbeats 4000000 in
theorem mX0_detourOf (l : Launch) (K : Nat) (D : va_G) (G : Nat → ClassId) (ad : Nat → Nat) (r : sR) (v : sV) (n : Nat) (x : Int64 × UInt64) (hsh : sSh r) (hn : 172 ≤ n) (cq : Nat) (bq : Nat) (fq : Nat) (hcb : okC cq bq) (hfq : okF r n fq) (x1 : Int32) : sMR l yX0_detourOf (.code yX0_detourOf cX0_detourOf 4 (some .int) :: wsL_law) rmX0_detourOf D G ad r v n x [.ref (ad cq), .int x1, .ref (ad fq)] (fX0_detourOf K cq bq fq x1 v) := by
  intro res hf
  refine Met.ofW (cc := cX0_detourOf) (maxL := 4) (ret := (some .int)) (by decide) rfl ?_
  intro p e s m args below meth c s₁ B hml hv
  obtain ⟨rfl, hU, hP⟩ := hv
  have hx := B.exec
  have hb := B.bytes
  have hrt := B.returns
  have hts : ∀ w ∈ wsL_law, w.before _ s = true := fun w hw => atoms_spec (ws := .code yX0_detourOf cX0_detourOf 4 (some .int) :: wsL_law) B.pre w (List.mem_cons_of_mem _ hw)
  have hlocks := B.notSynchronized
  have E : CallFix p m c cX0_detourOf 4 s ([.ref (ad cq), .int x1, .ref (ad fq)] : List Value).toArray wsL_law RX0 := ⟨hx, hb, hml, findClass_of_methodNamed B.named, hts⟩
  have hl := lv_entry ([.ref (ad cq), .int x1, .ref (ad fq)]) (n := 4) (Nat.le_of_ble_eq_true rfl)
  rw [lg_entry_eq]
  generalize (lg_sl ([.ref (ad cq), .int x1, .ref (ad fq)]) ++ List.replicate (4 - (lg_sl ([.ref (ad cq), .int x1, .ref (ad fq)])).length) Slot.unset).toArray = ls at hl ⊢
  have hl : lv_has ls 4 [(0, .ref (ad cq)), (1, .int x1), (2, .ref (ad fq))] := hl
  have hf := (fX0_detourOf.eq_1 ..).symm.trans hf
  refine lv_aload_n hx hb dX0_detourOf_0 rfl (lv_at hl 0 rfl) ?_
  refine s_getR (k := 0) (t := bq) E hU hP sc2 (okC_lt hsh hcb hn) (okC_k hcb) inlX0 (Nat.le_of_ble_eq_true rfl) rfl rfl wkX0_9 (hsh.1 _ _ _ (okC_r0 hcb)) dX0_detourOf_1 ?_
  refine s_getR (k := 7) (t := (bq + 8)) E hU hP sc7 (okS_lt0 hsh (okC_S hcb) hn) (okS_k hsh (okC_S hcb)) inlX5 (Nat.le_of_ble_eq_true rfl) rfl rfl wkX0_93 (okS_r hsh (okC_S hcb) 7 rfl) dX0_detourOf_4 ?_
  refine lv_iload_n hx hb dX0_detourOf_7 rfl (lv_at hl 1 rfl) ?_
  refine s_iald E hU hP (okS_lt hsh (okC_S hcb) hn 8 rfl) (okS_kj hsh (okC_S hcb) 8 _ rfl) dX0_detourOf_8 hf (fun y1 hf => ?_)
  refine lv_aload_n hx hb dX0_detourOf_9 rfl (lv_at hl 0 rfl) ?_
  refine s_getR (k := 0) (t := bq) E hU hP sc2 (okC_lt hsh hcb hn) (okC_k hcb) inlX0 (Nat.le_of_ble_eq_true rfl) rfl rfl wkX0_9 (hsh.1 _ _ _ (okC_r0 hcb)) dX0_detourOf_10 ?_
  refine s_getI (k := 12) E hU hP sc7 (okS_lt0 hsh (okC_S hcb) hn) (okS_k hsh (okC_S hcb)) inlX5 (Nat.le_of_ble_eq_true rfl) rfl rfl wkX0_148 dX0_detourOf_13 ?_
  refine lv_icmp_ge (tgt := 21) hx hb dX0_detourOf_16 rfl (fun hc => ?_) (fun hc => ?_)
  · have hf := ite_t hf hc
    refine lv_aload_n hx hb dX0_detourOf_21 rfl (lv_at hl 0 rfl) ?_
    refine s_getR (k := 0) (t := bq) E hU hP sc2 (okC_lt hsh hcb hn) (okC_k hcb) inlX0 (Nat.le_of_ble_eq_true rfl) rfl rfl wkX0_9 (hsh.1 _ _ _ (okC_r0 hcb)) dX0_detourOf_22 ?_
    refine s_getR (k := 3) (t := (bq + 4)) E hU hP sc7 (okS_lt0 hsh (okC_S hcb) hn) (okS_k hsh (okC_S hcb)) inlX5 (Nat.le_of_ble_eq_true rfl) rfl rfl wkX0_19 (okS_r hsh (okC_S hcb) 3 rfl) dX0_detourOf_25 ?_
    refine lv_iload_n hx hb dX0_detourOf_28 rfl (lv_at hl 1 rfl) ?_
    refine s_iald E hU hP (okS_lt hsh (okC_S hcb) hn 4 rfl) (okS_kj hsh (okC_S hcb) 4 _ rfl) dX0_detourOf_29 hf (fun y2 hf => ?_)
    refine lv_istore_n (lv' := [(3, .int y2), (0, .ref (ad cq)), (1, .int x1), (2, .ref (ad fq))]) hx hb dX0_detourOf_30 rfl hl (Nat.le_of_ble_eq_true rfl) rfl (fun ls hl => ?_)
    refine lv_aload_n hx hb dX0_detourOf_31 rfl (lv_at hl 1 rfl) ?_
    refine lv_iload_n hx hb dX0_detourOf_32 rfl (lv_at hl 0 rfl) ?_
    refine lv_aload_n hx hb dX0_detourOf_33 rfl (lv_at hl 3 rfl) ?_
    refine lv_aload_n hx hb dX0_detourOf_34 rfl (lv_at hl 3 rfl) ?_
    refine lv_iload_n hx hb dX0_detourOf_35 rfl (lv_at hl 0 rfl) ?_
    refine sc_R hf (rV_R (As := [.int y2]) (rest := [.ref (ad fq), .int y2, .ref (ad cq)]) E hU hP sc3 (okF_lt hfq) (okF_k hfq) (mX1_distanceOf l D G ad r _ n x hsh hn fq hfq y2) (cwGV 1 okX1_distanceOf wmX0_85 hts rfl rfl ⟨Nat.le_of_ble_eq_true rfl, Nat.le_of_ble_eq_true rfl⟩) rfl hl.1 (Nat.le_of_ble_eq_true rfl) dX0_detourOf_36 ⟨Nat.zero_le _, Nat.zero_le _⟩ rfl) (fun y3 hf => ?_)
    refine lv_iconst (v := 2) hx hb dX0_detourOf_39 rfl ?_
    refine lv_iadd hx hb dX0_detourOf_40 ?_
    refine sc_R hf (rV_R (As := [.int y2, .ref (ad fq), .int (y3 + 2)]) (rest := []) E hU hP sc2 (okC_lt hsh hcb hn) (okC_k hcb) (mX0_bestFreeDirection l K D G ad r _ n x hsh hn cq bq fq hcb hfq y2 (y3 + 2)) (cwGV 3 okX0_bestFreeDirection wmX0_144 hts rfl rfl ⟨Nat.le_of_ble_eq_true rfl, Nat.le_of_ble_eq_true rfl⟩) rfl hl.1 (Nat.le_of_ble_eq_true rfl) dX0_detourOf_41 ⟨Nat.zero_le _, Nat.zero_le _⟩ rfl) (fun y4 hf => ?_)
    exact s_iretR E hrt hlocks hf dX0_detourOf_44
  · have hf := ite_f hf hc
    refine lv_iconst (v := (-1)) hx hb dX0_detourOf_19 rfl ?_
    exact s_iretR E hrt hlocks hf dX0_detourOf_20
abbrev rmX0_jamNumber : Room := { frames := 4, cells := 0, slots := 0, locals := 94 }
set_option maxRecDepth 100000 in
set_option maxHeartbeats 4000000 in
theorem lX0_jamNumber_10 {K : Nat} {cq : Nat} {bq : Nat} {x1 : Int32} {x2 : Int32} {res : Int32} (E : CallFix p m c cX0_jamNumber 6 s args wsL_law RX0) (hlocks : meth.locks = false) (hrt : meth.sig.returnType = (some .int)) (hU : sU D G s) (hsh : sSh r) (hn : 172 ≤ n) (hcb : okC cq bq) {v : sV} (hP : va_P D vwCl (sWl G ad r v n x) s.heap) :
    ∀ (k : Nat) (x3 : Int32) (x4 : Int32) (ls : Array Slot), fx2 (gX0_jamNumber_10 K cq bq x1 x2 v) k x3 x4 = some res → lv_has ls 6 [(0, .ref (ad cq)), (1, .int x1), (2, .int x2), (3, .int x3), (4, .int x4)] → W p l e rmX0_jamNumber s m args below meth c s.heap [] 0 0 (MQ below (vp_Si (fun q => q = res)) args s 0 0 (fun _ => False)) (F0 m 10 ls []) := by
  have hx := E.1
  have hb := E.2.1
  have hts := E.2.2.2.2
  intro k
  induction k with
  | zero =>
    intro x3 x4 ls hf hl
    exact fx2_z hf
  | succ k ih =>
    intro x3 x4 ls hf hl
    have hf := (gX0_jamNumber_10.eq_1 ..).symm.trans hf
    refine lv_iload hx hb dX0_jamNumber_10 (lv_at hl 4 rfl) ?_
    refine lv_bipush (v := 16) hx hb dX0_jamNumber_12 rfl ?_
    refine lv_icmp_ge (tgt := 48) hx hb dX0_jamNumber_14 rfl (fun hc => ?_) (fun hc => ?_)
    · have hf := ite_t hf hc
      refine lv_iconst (v := 0) hx hb dX0_jamNumber_48 rfl ?_
      exact s_iretR E hrt hlocks hf dX0_jamNumber_49
    · have hf := ite_f hf hc
      refine lv_aload_n hx hb dX0_jamNumber_17 rfl (lv_at hl 0 rfl) ?_
      refine lv_iload hx hb dX0_jamNumber_18 (lv_at hl 4 rfl) ?_
      refine lv_iload_n hx hb dX0_jamNumber_20 rfl (lv_at hl 2 rfl) ?_
      refine sc_R hf (rV_R (As := [.int x4, .int x2]) (rest := []) E hU hP sc2 (okC_lt hsh hcb hn) (okC_k hcb) (mX0_jamFrom l K D G ad r _ n x hsh hn cq bq hcb x4 x2) (cwGV 2 okX0_jamFrom wmX0_166 hts rfl rfl ⟨Nat.le_of_ble_eq_true rfl, Nat.le_of_ble_eq_true rfl⟩) rfl hl.1 (Nat.le_of_ble_eq_true rfl) dX0_jamNumber_21 ⟨Nat.zero_le _, Nat.zero_le _⟩ rfl) (fun y2 hf => ?_)
      refine lv_istore (lv' := [(5, .int y2), (0, .ref (ad cq)), (1, .int x1), (2, .int x2), (3, .int x3), (4, .int x4)]) hx hb dX0_jamNumber_24 hl (Nat.le_of_ble_eq_true rfl) rfl (fun ls hl => ?_)
      refine lv_iload hx hb dX0_jamNumber_26 (lv_at hl 0 rfl) ?_
      refine lv_if_eq (tgt := 42) hx hb dX0_jamNumber_28 rfl (fun hc => ?_) (fun hc => ?_)
      · have hf := ite_t hf hc
        obtain ⟨z3, ez9, hf⟩ := nm_x hf
        refine lv_iinc (v := z3) (lv' := [(4, .int z3), (5, .int y2), (0, .ref (ad cq)), (1, .int x1), (2, .int x2), (3, .int x3)]) hx hb dX0_jamNumber_42 hl (k := 5) rfl (by rw [ez9]; rfl) (Nat.le_of_ble_eq_true rfl) rfl (fun ls hl => ?_)
        refine lv_goto (tgt := 10) hx hb dX0_jamNumber_45 rfl ?_
        exact ih _ _ _ hf (lv_sub hl [2, 3, 4, 5, 0] rfl)
      · have hf := ite_f hf hc
        refine lv_iload_n hx hb dX0_jamNumber_31 rfl (lv_at hl 4 rfl) ?_
        refine lv_iload_n hx hb dX0_jamNumber_32 rfl (lv_at hl 2 rfl) ?_
        refine lv_icmp_ne (tgt := 39) hx hb dX0_jamNumber_33 rfl (fun hc => ?_) (fun hc => ?_)
        · have hf := ite_f hf hc
          obtain ⟨z4, ez9, hf⟩ := nm_x hf
          refine lv_iinc (v := z4) (lv' := [(3, .int z4), (5, .int y2), (0, .ref (ad cq)), (1, .int x1), (2, .int x2), (4, .int x4)]) hx hb dX0_jamNumber_39 hl (k := 4) rfl (by rw [ez9]; rfl) (Nat.le_of_ble_eq_true rfl) rfl (fun ls hl => ?_)
          obtain ⟨z5, ez9, hf⟩ := nm_x hf
          refine lv_iinc (v := z5) (lv' := [(4, .int z5), (3, .int z4), (5, .int y2), (0, .ref (ad cq)), (1, .int x1), (2, .int x2)]) hx hb dX0_jamNumber_42 hl (k := 5) rfl (by rw [ez9]; rfl) (Nat.le_of_ble_eq_true rfl) rfl (fun ls hl => ?_)
          refine lv_goto (tgt := 10) hx hb dX0_jamNumber_45 rfl ?_
          exact ih _ _ _ hf (lv_sub hl [3, 4, 5, 1, 0] rfl)
        · have hf := ite_t hf hc
          refine lv_iload hx hb dX0_jamNumber_36 (lv_at hl 0 rfl) ?_
          exact s_iretR E hrt hlocks hf dX0_jamNumber_38
set_option maxRecDepth 100000 in
set_option maxHeartbeats 4000000 in
theorem mX0_jamNumber (l : Launch) (K : Nat) (D : va_G) (G : Nat → ClassId) (ad : Nat → Nat) (r : sR) (v : sV) (n : Nat) (x : Int64 × UInt64) (hsh : sSh r) (hn : 172 ≤ n) (cq : Nat) (bq : Nat) (hcb : okC cq bq) (x1 : Int32) : sMR l yX0_jamNumber (.code yX0_jamNumber cX0_jamNumber 6 (some .int) :: wsL_law) rmX0_jamNumber D G ad r v n x [.ref (ad cq), .int x1] (fX0_jamNumber K cq bq x1 v) := by
  intro res hf
  refine Met.ofW (cc := cX0_jamNumber) (maxL := 6) (ret := (some .int)) (by decide) rfl ?_
  intro p e s m args below meth c s₁ B hml hv
  obtain ⟨rfl, hU, hP⟩ := hv
  have hx := B.exec
  have hb := B.bytes
  have hrt := B.returns
  have hts : ∀ w ∈ wsL_law, w.before _ s = true := fun w hw => atoms_spec (ws := .code yX0_jamNumber cX0_jamNumber 6 (some .int) :: wsL_law) B.pre w (List.mem_cons_of_mem _ hw)
  have hlocks := B.notSynchronized
  have E : CallFix p m c cX0_jamNumber 6 s ([.ref (ad cq), .int x1] : List Value).toArray wsL_law RX0 := ⟨hx, hb, hml, findClass_of_methodNamed B.named, hts⟩
  have hl := lv_entry ([.ref (ad cq), .int x1]) (n := 6) (Nat.le_of_ble_eq_true rfl)
  rw [lg_entry_eq]
  generalize (lg_sl ([.ref (ad cq), .int x1]) ++ List.replicate (6 - (lg_sl ([.ref (ad cq), .int x1])).length) Slot.unset).toArray = ls at hl ⊢
  have hl : lv_has ls 6 [(0, .ref (ad cq)), (1, .int x1)] := hl
  have hf := (fX0_jamNumber.eq_1 ..).symm.trans hf
  refine lv_aload_n hx hb dX0_jamNumber_0 rfl (lv_at hl 0 rfl) ?_
  refine sc_R hf (rV_R (As := []) (rest := []) E hU hP sc2 (okC_lt hsh hcb hn) (okC_k hcb) (mX0_stuckOnes l K D G ad r _ n x hsh hn cq bq hcb) (cwGV 0 okX0_stuckOnes wmX0_162 hts rfl rfl ⟨Nat.le_of_ble_eq_true rfl, Nat.le_of_ble_eq_true rfl⟩) rfl hl.1 (Nat.le_of_ble_eq_true rfl) dX0_jamNumber_1 ⟨Nat.zero_le _, Nat.zero_le _⟩ rfl) (fun y1 hf => ?_)
  refine lv_istore_n (lv' := [(2, .int y1), (0, .ref (ad cq)), (1, .int x1)]) hx hb dX0_jamNumber_4 rfl hl (Nat.le_of_ble_eq_true rfl) rfl (fun ls hl => ?_)
  refine lv_iconst (v := 0) hx hb dX0_jamNumber_5 rfl ?_
  refine lv_istore_n (lv' := [(3, .int 0), (2, .int y1), (0, .ref (ad cq)), (1, .int x1)]) hx hb dX0_jamNumber_6 rfl hl (Nat.le_of_ble_eq_true rfl) rfl (fun ls hl => ?_)
  refine lv_iconst (v := 0) hx hb dX0_jamNumber_7 rfl ?_
  refine lv_istore (lv' := [(4, .int 0), (3, .int 0), (2, .int y1), (0, .ref (ad cq)), (1, .int x1)]) hx hb dX0_jamNumber_8 hl (Nat.le_of_ble_eq_true rfl) rfl (fun ls hl => ?_)
  exact lX0_jamNumber_10 E hlocks hrt hU hsh hn hcb hP _ _ _ _ hf (lv_sub hl [3, 4, 2, 1, 0] rfl)
abbrev rmX0_sumOfWaits : Room := { frames := 1, cells := 0, slots := 0, locals := 21 }
set_option maxRecDepth 100000 in
set_option maxHeartbeats 4000000 in
theorem lX0_sumOfWaits_4 {K : Nat} {cq : Nat} {bq : Nat} {x1 : Int32} {res : Int32} (E : CallFix p m c cX0_sumOfWaits 4 s args wsL_law RX0) (hlocks : meth.locks = false) (hrt : meth.sig.returnType = (some .int)) (hU : sU D G s) (hsh : sSh r) (hn : 172 ≤ n) (hcb : okC cq bq) {v : sV} (hP : va_P D vwCl (sWl G ad r v n x) s.heap) :
    ∀ (k : Nat) (x2 : Int32) (x3 : Int32) (ls : Array Slot), fx2 (gX0_sumOfWaits_4 K cq bq x1 v) k x2 x3 = some res → lv_has ls 4 [(0, .ref (ad cq)), (1, .int x1), (2, .int x2), (3, .int x3)] → W p l e rmX0_sumOfWaits s m args below meth c s.heap [] 0 0 (MQ below (vp_Si (fun q => q = res)) args s 0 0 (fun _ => False)) (F0 m 4 ls []) := by
  have hx := E.1
  have hb := E.2.1
  have hts := E.2.2.2.2
  intro k
  induction k with
  | zero =>
    intro x2 x3 ls hf hl
    exact fx2_z hf
  | succ k ih =>
    intro x2 x3 ls hf hl
    have hf := (gX0_sumOfWaits_4.eq_1 ..).symm.trans hf
    refine lv_iload_n hx hb dX0_sumOfWaits_4 rfl (lv_at hl 3 rfl) ?_
    refine lv_bipush (v := 16) hx hb dX0_sumOfWaits_5 rfl ?_
    refine lv_icmp_ge (tgt := 36) hx hb dX0_sumOfWaits_7 rfl (fun hc => ?_) (fun hc => ?_)
    · have hf := ite_t hf hc
      refine lv_iload_n hx hb dX0_sumOfWaits_36 rfl (lv_at hl 2 rfl) ?_
      exact s_iretR E hrt hlocks hf dX0_sumOfWaits_37
    · have hf := ite_f hf hc
      refine lv_iload_n hx hb dX0_sumOfWaits_10 rfl (lv_at hl 1 rfl) ?_
      refine lv_iload_n hx hb dX0_sumOfWaits_11 rfl (lv_at hl 3 rfl) ?_
      refine sc_R hf (rSN_S (As := [.int x1, .int x3]) (rest := []) E (mX6_isIn l x1 x3) (cwGN 2 okX6_isIn (hU.2.1 _ (List.mem_of_getElem? (i := 2) rfl)) hts rfl rfl ⟨Nat.le_of_ble_eq_true rfl, Nat.le_of_ble_eq_true rfl⟩) rfl hl.1 (Nat.le_of_ble_eq_true rfl) dX0_sumOfWaits_12 ⟨Nat.zero_le _, Nat.zero_le _⟩ rfl) (fun y1 hf => ?_)
      refine lv_if_eq (tgt := 30) hx hb dX0_sumOfWaits_15 rfl (fun hc => ?_) (fun hc => ?_)
      · have hf := ite_t hf hc
        obtain ⟨z2, ez9, hf⟩ := nm_x hf
        refine lv_iinc (v := z2) (lv' := [(3, .int z2), (0, .ref (ad cq)), (1, .int x1), (2, .int x2)]) hx hb dX0_sumOfWaits_30 hl (k := 3) rfl (by rw [ez9]; rfl) (Nat.le_of_ble_eq_true rfl) rfl (fun ls hl => ?_)
        refine lv_goto (tgt := 4) hx hb dX0_sumOfWaits_33 rfl ?_
        exact ih _ _ _ hf (lv_sub hl [1, 2, 3, 0] rfl)
      · have hf := ite_f hf hc
        refine lv_iload_n hx hb dX0_sumOfWaits_18 rfl (lv_at hl 2 rfl) ?_
        refine lv_aload_n hx hb dX0_sumOfWaits_19 rfl (lv_at hl 0 rfl) ?_
        refine s_getR (k := 0) (t := bq) E hU hP sc2 (okC_lt hsh hcb hn) (okC_k hcb) inlX0 (Nat.le_of_ble_eq_true rfl) rfl rfl wkX0_9 (hsh.1 _ _ _ (okC_r0 hcb)) dX0_sumOfWaits_20 ?_
        refine s_getR (k := 7) (t := (bq + 8)) E hU hP sc7 (okS_lt0 hsh (okC_S hcb) hn) (okS_k hsh (okC_S hcb)) inlX5 (Nat.le_of_ble_eq_true rfl) rfl rfl wkX0_93 (okS_r hsh (okC_S hcb) 7 rfl) dX0_sumOfWaits_23 ?_
        refine lv_iload_n hx hb dX0_sumOfWaits_26 rfl (lv_at hl 3 rfl) ?_
        refine s_iald E hU hP (okS_lt hsh (okC_S hcb) hn 8 rfl) (okS_kj hsh (okC_S hcb) 8 _ rfl) dX0_sumOfWaits_27 hf (fun y3 hf => ?_)
        refine lv_iadd hx hb dX0_sumOfWaits_28 ?_
        refine s_nm hf (fun z4 hf => ?_)
        refine lv_istore_n (lv' := [(2, .int z4), (0, .ref (ad cq)), (1, .int x1), (3, .int x3)]) hx hb dX0_sumOfWaits_29 rfl hl (Nat.le_of_ble_eq_true rfl) rfl (fun ls hl => ?_)
        obtain ⟨z5, ez9, hf⟩ := nm_x hf
        refine lv_iinc (v := z5) (lv' := [(3, .int z5), (2, .int z4), (0, .ref (ad cq)), (1, .int x1)]) hx hb dX0_sumOfWaits_30 hl (k := 3) rfl (by rw [ez9]; rfl) (Nat.le_of_ble_eq_true rfl) rfl (fun ls hl => ?_)
        refine lv_goto (tgt := 4) hx hb dX0_sumOfWaits_33 rfl ?_
        exact ih _ _ _ hf (lv_sub hl [2, 3, 1, 0] rfl)
set_option maxRecDepth 100000 in
set_option maxHeartbeats 4000000 in
theorem mX0_sumOfWaits (l : Launch) (K : Nat) (D : va_G) (G : Nat → ClassId) (ad : Nat → Nat) (r : sR) (v : sV) (n : Nat) (x : Int64 × UInt64) (hsh : sSh r) (hn : 172 ≤ n) (cq : Nat) (bq : Nat) (hcb : okC cq bq) (x1 : Int32) : sMR l yX0_sumOfWaits (.code yX0_sumOfWaits cX0_sumOfWaits 4 (some .int) :: wsL_law) rmX0_sumOfWaits D G ad r v n x [.ref (ad cq), .int x1] (fX0_sumOfWaits K cq bq x1 v) := by
  intro res hf
  refine Met.ofW (cc := cX0_sumOfWaits) (maxL := 4) (ret := (some .int)) (by decide) rfl ?_
  intro p e s m args below meth c s₁ B hml hv
  obtain ⟨rfl, hU, hP⟩ := hv
  have hx := B.exec
  have hb := B.bytes
  have hrt := B.returns
  have hts : ∀ w ∈ wsL_law, w.before _ s = true := fun w hw => atoms_spec (ws := .code yX0_sumOfWaits cX0_sumOfWaits 4 (some .int) :: wsL_law) B.pre w (List.mem_cons_of_mem _ hw)
  have hlocks := B.notSynchronized
  have E : CallFix p m c cX0_sumOfWaits 4 s ([.ref (ad cq), .int x1] : List Value).toArray wsL_law RX0 := ⟨hx, hb, hml, findClass_of_methodNamed B.named, hts⟩
  have hl := lv_entry ([.ref (ad cq), .int x1]) (n := 4) (Nat.le_of_ble_eq_true rfl)
  rw [lg_entry_eq]
  generalize (lg_sl ([.ref (ad cq), .int x1]) ++ List.replicate (4 - (lg_sl ([.ref (ad cq), .int x1])).length) Slot.unset).toArray = ls at hl ⊢
  have hl : lv_has ls 4 [(0, .ref (ad cq)), (1, .int x1)] := hl
  have hf := (fX0_sumOfWaits.eq_1 ..).symm.trans hf
  refine lv_iconst (v := 0) hx hb dX0_sumOfWaits_0 rfl ?_
  refine lv_istore_n (lv' := [(2, .int 0), (0, .ref (ad cq)), (1, .int x1)]) hx hb dX0_sumOfWaits_1 rfl hl (Nat.le_of_ble_eq_true rfl) rfl (fun ls hl => ?_)
  refine lv_iconst (v := 0) hx hb dX0_sumOfWaits_2 rfl ?_
  refine lv_istore_n (lv' := [(3, .int 0), (2, .int 0), (0, .ref (ad cq)), (1, .int x1)]) hx hb dX0_sumOfWaits_3 rfl hl (Nat.le_of_ble_eq_true rfl) rfl (fun ls hl => ?_)
  exact lX0_sumOfWaits_4 E hlocks hrt hU hsh hn hcb hP _ _ _ _ hf (lv_sub hl [2, 3, 1, 0] rfl)
abbrev rmX0_freeCellsAround : Room := { frames := 2, cells := 0, slots := 0, locals := 46 }
set_option maxRecDepth 100000 in
set_option maxHeartbeats 4000000 in
theorem lX0_freeCellsAround_4 {K : Nat} {cq : Nat} {bq : Nat} {x1 : Int32} {res : Int32} (E : CallFix p m c cX0_freeCellsAround 4 s args wsL_law RX0) (hlocks : meth.locks = false) (hrt : meth.sig.returnType = (some .int)) (hU : sU D G s) (hsh : sSh r) (hn : 172 ≤ n) (hcb : okC cq bq) {v : sV} (hP : va_P D vwCl (sWl G ad r v n x) s.heap) :
    ∀ (k : Nat) (x2 : Int32) (x3 : Int32) (ls : Array Slot), fx2 (gX0_freeCellsAround_4 K cq bq x1 v) k x2 x3 = some res → lv_has ls 4 [(0, .ref (ad cq)), (1, .int x1), (2, .int x2), (3, .int x3)] → W p l e rmX0_freeCellsAround s m args below meth c s.heap [] 0 0 (MQ below (vp_Si (fun q => q = res)) args s 0 0 (fun _ => False)) (F0 m 4 ls []) := by
  have hx := E.1
  have hb := E.2.1
  have hts := E.2.2.2.2
  intro k
  induction k with
  | zero =>
    intro x2 x3 ls hf hl
    exact fx2_z hf
  | succ k ih =>
    intro x2 x3 ls hf hl
    have hf := (gX0_freeCellsAround_4.eq_1 ..).symm.trans hf
    refine lv_iload_n hx hb dX0_freeCellsAround_4 rfl (lv_at hl 3 rfl) ?_
    refine lv_sipush (v := 140) hx hb dX0_freeCellsAround_5 rfl ?_
    refine lv_icmp_ge (tgt := 38) hx hb dX0_freeCellsAround_8 rfl (fun hc => ?_) (fun hc => ?_)
    · have hf := ite_t hf hc
      refine lv_iload_n hx hb dX0_freeCellsAround_38 rfl (lv_at hl 2 rfl) ?_
      exact s_iretR E hrt hlocks hf dX0_freeCellsAround_39
    · have hf := ite_f hf hc
      refine lv_aload_n hx hb dX0_freeCellsAround_11 rfl (lv_at hl 0 rfl) ?_
      refine lv_iload_n hx hb dX0_freeCellsAround_12 rfl (lv_at hl 3 rfl) ?_
      refine sc_R hf (rV_R (As := [.int x3]) (rest := []) E hU hP sc2 (okC_lt hsh hcb hn) (okC_k hcb) (mX0_isFree l K D G ad r _ n x hsh hn cq bq hcb x3) (cwGV 1 okX0_isFree wmX0_151 hts rfl rfl ⟨Nat.le_of_ble_eq_true rfl, Nat.le_of_ble_eq_true rfl⟩) rfl hl.1 (Nat.le_of_ble_eq_true rfl) dX0_freeCellsAround_13 ⟨Nat.zero_le _, Nat.zero_le _⟩ rfl) (fun y1 hf => ?_)
      refine lv_if_eq (tgt := 32) hx hb dX0_freeCellsAround_16 rfl (fun hc => ?_) (fun hc => ?_)
      · have hf := ite_t hf hc
        obtain ⟨z2, ez9, hf⟩ := nm_x hf
        refine lv_iinc (v := z2) (lv' := [(3, .int z2), (0, .ref (ad cq)), (1, .int x1), (2, .int x2)]) hx hb dX0_freeCellsAround_32 hl (k := 3) rfl (by rw [ez9]; rfl) (Nat.le_of_ble_eq_true rfl) rfl (fun ls hl => ?_)
        refine lv_goto (tgt := 4) hx hb dX0_freeCellsAround_35 rfl ?_
        exact ih _ _ _ hf (lv_sub hl [1, 2, 3, 0] rfl)
      · have hf := ite_f hf hc
        refine lv_aload_n hx hb dX0_freeCellsAround_19 rfl (lv_at hl 0 rfl) ?_
        refine lv_iload_n hx hb dX0_freeCellsAround_20 rfl (lv_at hl 3 rfl) ?_
        refine sc_R hf (rV_R (As := [.int x3]) (rest := []) E hU hP sc2 (okC_lt hsh hcb hn) (okC_k hcb) (mX0_agentsBeside l K D G ad r _ n x hsh hn cq bq hcb x3) (cwGV 1 okX0_agentsBeside wmX0_169 hts rfl rfl ⟨Nat.le_of_ble_eq_true rfl, Nat.le_of_ble_eq_true rfl⟩) rfl hl.1 (Nat.le_of_ble_eq_true rfl) dX0_freeCellsAround_21 ⟨Nat.zero_le _, Nat.zero_le _⟩ rfl) (fun y3 hf => ?_)
        refine lv_iload_n hx hb dX0_freeCellsAround_24 rfl (lv_at hl 1 rfl) ?_
        refine lv_iand hx hb dX0_freeCellsAround_25 ?_
        refine lv_if_eq (tgt := 32) hx hb dX0_freeCellsAround_26 rfl (fun hc => ?_) (fun hc => ?_)
        · have hf := ite_t hf hc
          obtain ⟨z4, ez9, hf⟩ := nm_x hf
          refine lv_iinc (v := z4) (lv' := [(3, .int z4), (0, .ref (ad cq)), (1, .int x1), (2, .int x2)]) hx hb dX0_freeCellsAround_32 hl (k := 3) rfl (by rw [ez9]; rfl) (Nat.le_of_ble_eq_true rfl) rfl (fun ls hl => ?_)
          refine lv_goto (tgt := 4) hx hb dX0_freeCellsAround_35 rfl ?_
          exact ih _ _ _ hf (lv_sub hl [1, 2, 3, 0] rfl)
        · have hf := ite_f hf hc
          obtain ⟨z5, ez9, hf⟩ := nm_x hf
          refine lv_iinc (v := z5) (lv' := [(2, .int z5), (0, .ref (ad cq)), (1, .int x1), (3, .int x3)]) hx hb dX0_freeCellsAround_29 hl (k := 2) rfl (by rw [ez9]; rfl) (Nat.le_of_ble_eq_true rfl) rfl (fun ls hl => ?_)
          obtain ⟨z6, ez9, hf⟩ := nm_x hf
          refine lv_iinc (v := z6) (lv' := [(3, .int z6), (2, .int z5), (0, .ref (ad cq)), (1, .int x1)]) hx hb dX0_freeCellsAround_32 hl (k := 3) rfl (by rw [ez9]; rfl) (Nat.le_of_ble_eq_true rfl) rfl (fun ls hl => ?_)
          refine lv_goto (tgt := 4) hx hb dX0_freeCellsAround_35 rfl ?_
          exact ih _ _ _ hf (lv_sub hl [2, 3, 1, 0] rfl)
set_option maxRecDepth 100000 in
set_option maxHeartbeats 4000000 in
theorem mX0_freeCellsAround (l : Launch) (K : Nat) (D : va_G) (G : Nat → ClassId) (ad : Nat → Nat) (r : sR) (v : sV) (n : Nat) (x : Int64 × UInt64) (hsh : sSh r) (hn : 172 ≤ n) (cq : Nat) (bq : Nat) (hcb : okC cq bq) (x1 : Int32) : sMR l yX0_freeCellsAround (.code yX0_freeCellsAround cX0_freeCellsAround 4 (some .int) :: wsL_law) rmX0_freeCellsAround D G ad r v n x [.ref (ad cq), .int x1] (fX0_freeCellsAround K cq bq x1 v) := by
  intro res hf
  refine Met.ofW (cc := cX0_freeCellsAround) (maxL := 4) (ret := (some .int)) (by decide) rfl ?_
  intro p e s m args below meth c s₁ B hml hv
  obtain ⟨rfl, hU, hP⟩ := hv
  have hx := B.exec
  have hb := B.bytes
  have hrt := B.returns
  have hts : ∀ w ∈ wsL_law, w.before _ s = true := fun w hw => atoms_spec (ws := .code yX0_freeCellsAround cX0_freeCellsAround 4 (some .int) :: wsL_law) B.pre w (List.mem_cons_of_mem _ hw)
  have hlocks := B.notSynchronized
  have E : CallFix p m c cX0_freeCellsAround 4 s ([.ref (ad cq), .int x1] : List Value).toArray wsL_law RX0 := ⟨hx, hb, hml, findClass_of_methodNamed B.named, hts⟩
  have hl := lv_entry ([.ref (ad cq), .int x1]) (n := 4) (Nat.le_of_ble_eq_true rfl)
  rw [lg_entry_eq]
  generalize (lg_sl ([.ref (ad cq), .int x1]) ++ List.replicate (4 - (lg_sl ([.ref (ad cq), .int x1])).length) Slot.unset).toArray = ls at hl ⊢
  have hl : lv_has ls 4 [(0, .ref (ad cq)), (1, .int x1)] := hl
  have hf := (fX0_freeCellsAround.eq_1 ..).symm.trans hf
  refine lv_iconst (v := 0) hx hb dX0_freeCellsAround_0 rfl ?_
  refine lv_istore_n (lv' := [(2, .int 0), (0, .ref (ad cq)), (1, .int x1)]) hx hb dX0_freeCellsAround_1 rfl hl (Nat.le_of_ble_eq_true rfl) rfl (fun ls hl => ?_)
  refine lv_iconst (v := 0) hx hb dX0_freeCellsAround_2 rfl ?_
  refine lv_istore_n (lv' := [(3, .int 0), (2, .int 0), (0, .ref (ad cq)), (1, .int x1)]) hx hb dX0_freeCellsAround_3 rfl hl (Nat.le_of_ble_eq_true rfl) rfl (fun ls hl => ?_)
  exact lX0_freeCellsAround_4 E hlocks hrt hU hsh hn hcb hP _ _ _ _ hf (lv_sub hl [2, 3, 1, 0] rfl)
abbrev rmX1_flowOf : Room := { frames := 1, cells := 0, slots := 0, locals := 21 }
set_option maxRecDepth 100000 in
set_option maxHeartbeats 4000000 in
theorem lX1_flowOf_15 {K : Nat} {fq : Nat} {a2 : Nat} {x1 : Int32} {x3 : Int32} {res : Int32} (E : CallFix p m c cX1_flowOf 7 s args wsL_law RX1) (hlocks : meth.locks = false) (hrt : meth.sig.returnType = (some .int)) (hU : sU D G s) (hsh : sSh r) (hn : 172 ≤ n) (hfq : okF r n fq) (hk2 : sks a2 = (10, 140)) (hl2 : lv r n a2) {v : sV} (hP : va_P D vwCl (sWl G ad r v n x) s.heap) :
    ∀ (k : Nat) (x4 : Int32) (ls : Array Slot), fx1 (gX1_flowOf_15 K fq a2 x1 x3 v) k x4 = some res → lv_has ls 7 [(0, .ref (ad fq)), (1, .int x1), (2, .ref (ad a2)), (3, .int x3), (4, .int x4)] → W p l e rmX1_flowOf s m args below meth c s.heap [] 0 0 (MQ below (vp_Si (fun q => q = res)) args s 0 0 (fun _ => False)) (F0 m 15 ls []) := by
  have hx := E.1
  have hb := E.2.1
  have hts := E.2.2.2.2
  intro k
  induction k with
  | zero =>
    intro x4 ls hf hl
    exact fx1_z hf
  | succ k ih =>
    intro x4 ls hf hl
    have hf := (gX1_flowOf_15.eq_1 ..).symm.trans hf
    refine lv_iload hx hb dX1_flowOf_15 (lv_at hl 4 rfl) ?_
    refine lv_iconst (v := 4) hx hb dX1_flowOf_17 rfl ?_
    refine lv_icmp_ge (tgt := 63) hx hb dX1_flowOf_18 rfl (fun hc => ?_) (fun hc => ?_)
    · have hf := ite_t hf hc
      refine lv_iconst (v := (-1)) hx hb dX1_flowOf_63 rfl ?_
      exact s_iretR E hrt hlocks hf dX1_flowOf_64
    · have hf := ite_f hf hc
      refine lv_iload_n hx hb dX1_flowOf_21 rfl (lv_at hl 1 rfl) ?_
      refine lv_iload hx hb dX1_flowOf_22 (lv_at hl 4 rfl) ?_
      refine sc_R hf (rSN_S (As := [.int x1, .int x4]) (rest := []) E (mX6_neighborOf l x1 x4) (cwGN 2 okX6_neighborOf (hU.2.1 _ (List.mem_of_getElem? (i := 5) rfl)) hts rfl rfl ⟨Nat.le_of_ble_eq_true rfl, Nat.le_of_ble_eq_true rfl⟩) rfl hl.1 (Nat.le_of_ble_eq_true rfl) dX1_flowOf_24 ⟨Nat.zero_le _, Nat.zero_le _⟩ rfl) (fun y2 hf => ?_)
      refine lv_istore (lv' := [(5, .int y2), (0, .ref (ad fq)), (1, .int x1), (2, .ref (ad a2)), (3, .int x3), (4, .int x4)]) hx hb dX1_flowOf_27 hl (Nat.le_of_ble_eq_true rfl) rfl (fun ls hl => ?_)
      refine lv_aload_n hx hb dX1_flowOf_29 rfl (lv_at hl 1 rfl) ?_
      refine lv_iload hx hb dX1_flowOf_30 (lv_at hl 0 rfl) ?_
      refine sc_R hf (rV_R (As := [.int y2]) (rest := []) E hU hP sc3 (okF_lt hfq) (okF_k hfq) (mX1_distanceOf l D G ad r _ n x hsh hn fq hfq y2) (cwGV 1 okX1_distanceOf wmX1_25 hts rfl rfl ⟨Nat.le_of_ble_eq_true rfl, Nat.le_of_ble_eq_true rfl⟩) rfl hl.1 (Nat.le_of_ble_eq_true rfl) dX1_flowOf_32 ⟨Nat.zero_le _, Nat.zero_le _⟩ rfl) (fun y3 hf => ?_)
      refine lv_istore (lv' := [(6, .int y3), (5, .int y2), (0, .ref (ad fq)), (1, .int x1), (2, .ref (ad a2)), (3, .int x3), (4, .int x4)]) hx hb dX1_flowOf_35 hl (Nat.le_of_ble_eq_true rfl) rfl (fun ls hl => ?_)
      refine lv_iload hx hb dX1_flowOf_37 (lv_at hl 0 rfl) ?_
      refine lv_iconst (v := (-1)) hx hb dX1_flowOf_39 rfl ?_
      refine lv_icmp_eq (tgt := 57) hx hb dX1_flowOf_40 rfl (fun hc => ?_) (fun hc => ?_)
      · have hf := ite_t hf hc
        obtain ⟨z4, ez9, hf⟩ := nm_x hf
        refine lv_iinc (v := z4) (lv' := [(4, .int z4), (6, .int y3), (5, .int y2), (0, .ref (ad fq)), (1, .int x1), (2, .ref (ad a2)), (3, .int x3)]) hx hb dX1_flowOf_57 hl (k := 6) rfl (by rw [ez9]; rfl) (Nat.le_of_ble_eq_true rfl) rfl (fun ls hl => ?_)
        refine lv_goto (tgt := 15) hx hb dX1_flowOf_60 rfl ?_
        exact ih _ _ hf (lv_sub hl [3, 4, 5, 6, 0] rfl)
      · have hf := ite_f hf hc
        refine lv_iload hx hb dX1_flowOf_43 (lv_at hl 0 rfl) ?_
        refine lv_aload_n hx hb dX1_flowOf_45 rfl (lv_at hl 4 rfl) ?_
        refine lv_iload hx hb dX1_flowOf_46 (lv_at hl 1 rfl) ?_
        refine s_iald E hU hP hl2 hk2 dX1_flowOf_48 hf (fun y5 hf => ?_)
        refine lv_iadd hx hb dX1_flowOf_49 ?_
        refine lv_iload_n hx hb dX1_flowOf_50 rfl (lv_at hl 5 rfl) ?_
        refine lv_icmp_ne (tgt := 57) hx hb dX1_flowOf_51 rfl (fun hc => ?_) (fun hc => ?_)
        · have hf := ite_f hf hc
          obtain ⟨z6, ez9, hf⟩ := nm_x hf
          refine lv_iinc (v := z6) (lv' := [(4, .int z6), (6, .int y3), (5, .int y2), (0, .ref (ad fq)), (1, .int x1), (2, .ref (ad a2)), (3, .int x3)]) hx hb dX1_flowOf_57 hl (k := 6) rfl (by rw [ez9]; rfl) (Nat.le_of_ble_eq_true rfl) rfl (fun ls hl => ?_)
          refine lv_goto (tgt := 15) hx hb dX1_flowOf_60 rfl ?_
          exact ih _ _ hf (lv_sub hl [3, 4, 5, 6, 0] rfl)
        · have hf := ite_t hf hc
          refine lv_iload hx hb dX1_flowOf_54 (lv_at hl 6 rfl) ?_
          exact s_iretR E hrt hlocks hf dX1_flowOf_56
set_option maxRecDepth 100000 in
set_option maxHeartbeats 4000000 in
theorem mX1_flowOf (l : Launch) (K : Nat) (D : va_G) (G : Nat → ClassId) (ad : Nat → Nat) (r : sR) (v : sV) (n : Nat) (x : Int64 × UInt64) (hsh : sSh r) (hn : 172 ≤ n) (fq : Nat) (a2 : Nat) (hfq : okF r n fq) (hk2 : sks a2 = (10, 140)) (hl2 : lv r n a2) (x1 : Int32) : sMR l yX1_flowOf (.code yX1_flowOf cX1_flowOf 7 (some .int) :: wsL_law) rmX1_flowOf D G ad r v n x [.ref (ad fq), .int x1, .ref (ad a2)] (fX1_flowOf K fq a2 x1 v) := by
  intro res hf
  refine Met.ofW (cc := cX1_flowOf) (maxL := 7) (ret := (some .int)) (by decide) rfl ?_
  intro p e s m args below meth c s₁ B hml hv
  obtain ⟨rfl, hU, hP⟩ := hv
  have hx := B.exec
  have hb := B.bytes
  have hrt := B.returns
  have hts : ∀ w ∈ wsL_law, w.before _ s = true := fun w hw => atoms_spec (ws := .code yX1_flowOf cX1_flowOf 7 (some .int) :: wsL_law) B.pre w (List.mem_cons_of_mem _ hw)
  have hlocks := B.notSynchronized
  have E : CallFix p m c cX1_flowOf 7 s ([.ref (ad fq), .int x1, .ref (ad a2)] : List Value).toArray wsL_law RX1 := ⟨hx, hb, hml, findClass_of_methodNamed B.named, hts⟩
  have hl := lv_entry ([.ref (ad fq), .int x1, .ref (ad a2)]) (n := 7) (Nat.le_of_ble_eq_true rfl)
  rw [lg_entry_eq]
  generalize (lg_sl ([.ref (ad fq), .int x1, .ref (ad a2)]) ++ List.replicate (7 - (lg_sl ([.ref (ad fq), .int x1, .ref (ad a2)])).length) Slot.unset).toArray = ls at hl ⊢
  have hl : lv_has ls 7 [(0, .ref (ad fq)), (1, .int x1), (2, .ref (ad a2))] := hl
  have hf := (fX1_flowOf.eq_1 ..).symm.trans hf
  refine lv_aload_n hx hb dX1_flowOf_0 rfl (lv_at hl 0 rfl) ?_
  refine lv_iload_n hx hb dX1_flowOf_1 rfl (lv_at hl 1 rfl) ?_
  refine sc_R hf (rV_R (As := [.int x1]) (rest := []) E hU hP sc3 (okF_lt hfq) (okF_k hfq) (mX1_distanceOf l D G ad r _ n x hsh hn fq hfq x1) (cwGV 1 okX1_distanceOf wmX1_25 hts rfl rfl ⟨Nat.le_of_ble_eq_true rfl, Nat.le_of_ble_eq_true rfl⟩) rfl hl.1 (Nat.le_of_ble_eq_true rfl) dX1_flowOf_2 ⟨Nat.zero_le _, Nat.zero_le _⟩ rfl) (fun y1 hf => ?_)
  refine lv_istore_n (lv' := [(3, .int y1), (0, .ref (ad fq)), (1, .int x1), (2, .ref (ad a2))]) hx hb dX1_flowOf_5 rfl hl (Nat.le_of_ble_eq_true rfl) rfl (fun ls hl => ?_)
  refine lv_iload_n hx hb dX1_flowOf_6 rfl (lv_at hl 0 rfl) ?_
  refine lv_if_gt (tgt := 12) hx hb dX1_flowOf_7 rfl (fun hc => ?_) (fun hc => ?_)
  · have hf := ite_t hf hc
    refine lv_iconst (v := 0) hx hb dX1_flowOf_12 rfl ?_
    refine lv_istore (lv' := [(4, .int 0), (3, .int y1), (0, .ref (ad fq)), (1, .int x1), (2, .ref (ad a2))]) hx hb dX1_flowOf_13 hl (Nat.le_of_ble_eq_true rfl) rfl (fun ls hl => ?_)
    exact lX1_flowOf_15 E hlocks hrt hU hsh hn hfq hk2 hl2 hP _ _ _ hf (lv_sub hl [2, 3, 4, 1, 0] rfl)
  · have hf := ite_f hf hc
    refine lv_iconst (v := (-1)) hx hb dX1_flowOf_10 rfl ?_
    exact s_iretR E hrt hlocks hf dX1_flowOf_11
abbrev rmX1_stepsFrom : Room := { frames := 2, cells := 0, slots := 0, locals := 47 }
set_option maxRecDepth 100000 in
set_option maxHeartbeats 4000000 in
theorem lX1_stepsFrom_16 {K : Nat} {fq : Nat} {a2 : Nat} {res : Int32} (E : CallFix p m c cX1_stepsFrom 5 s args wsL_law RX1) (hlocks : meth.locks = false) (hrt : meth.sig.returnType = (some .int)) (hU : sU D G s) (hsh : sSh r) (hn : 172 ≤ n) (hfq : okF r n fq) (hk2 : sks a2 = (10, 140)) (hl2 : lv r n a2) {v : sV} (hP : va_P D vwCl (sWl G ad r v n x) s.heap) :
    ∀ (k : Nat) (x3 : Int32) (x4 : Int32) (ls : Array Slot), fx2 (gX1_stepsFrom_16 K fq a2 v) k x3 x4 = some res → lv_has ls 5 [(0, .ref (ad fq)), (2, .ref (ad a2)), (3, .int x3), (4, .int x4)] → W p l e rmX1_stepsFrom s m args below meth c s.heap [] 0 0 (MQ below (vp_Si (fun q => q = res)) args s 0 0 (fun _ => False)) (F0 m 16 ls []) := by
  have hx := E.1
  have hb := E.2.1
  have hts := E.2.2.2.2
  intro k
  induction k with
  | zero =>
    intro x3 x4 ls hf hl
    exact fx2_z hf
  | succ k ih =>
    intro x3 x4 ls hf hl
    have hf := (gX1_stepsFrom_16.eq_1 ..).symm.trans hf
    refine lv_aload_n hx hb dX1_stepsFrom_16 rfl (lv_at hl 0 rfl) ?_
    refine lv_iload hx hb dX1_stepsFrom_17 (lv_at hl 3 rfl) ?_
    refine sc_R hf (rV_R (As := [.int x4]) (rest := []) E hU hP sc3 (okF_lt hfq) (okF_k hfq) (mX1_distanceOf l D G ad r _ n x hsh hn fq hfq x4) (cwGV 1 okX1_distanceOf wmX1_25 hts rfl rfl ⟨Nat.le_of_ble_eq_true rfl, Nat.le_of_ble_eq_true rfl⟩) rfl hl.1 (Nat.le_of_ble_eq_true rfl) dX1_stepsFrom_19 ⟨Nat.zero_le _, Nat.zero_le _⟩ rfl) (fun y2 hf => ?_)
    refine lv_if_le (tgt := 52) hx hb dX1_stepsFrom_22 rfl (fun hc => ?_) (fun hc => ?_)
    · have hf := ite_t hf hc
      refine lv_iload_n hx hb dX1_stepsFrom_52 rfl (lv_at hl 2 rfl) ?_
      exact s_iretR E hrt hlocks hf dX1_stepsFrom_53
    · have hf := ite_f hf hc
      refine lv_iload_n hx hb dX1_stepsFrom_25 rfl (lv_at hl 2 rfl) ?_
      refine lv_sipush (v := 140) hx hb dX1_stepsFrom_26 rfl ?_
      refine lv_icmp_ge (tgt := 52) hx hb dX1_stepsFrom_29 rfl (fun hc => ?_) (fun hc => ?_)
      · have hf := ite_t hf hc
        refine lv_iload_n hx hb dX1_stepsFrom_52 rfl (lv_at hl 2 rfl) ?_
        exact s_iretR E hrt hlocks hf dX1_stepsFrom_53
      · have hf := ite_f hf hc
        refine lv_iload hx hb dX1_stepsFrom_32 (lv_at hl 3 rfl) ?_
        refine lv_aload_n hx hb dX1_stepsFrom_34 rfl (lv_at hl 0 rfl) ?_
        refine lv_iload hx hb dX1_stepsFrom_35 (lv_at hl 3 rfl) ?_
        refine lv_aload_n hx hb dX1_stepsFrom_37 rfl (lv_at hl 1 rfl) ?_
        refine sc_R hf (rV_R (As := [.int x4, .ref (ad a2)]) (rest := [.int x4]) E hU hP sc3 (okF_lt hfq) (okF_k hfq) (mX1_flowOf l K D G ad r _ n x hsh hn fq a2 hfq hk2 hl2 x4) (cwGV 2 okX1_flowOf wmX1_33 hts rfl rfl ⟨Nat.le_of_ble_eq_true rfl, Nat.le_of_ble_eq_true rfl⟩) rfl hl.1 (Nat.le_of_ble_eq_true rfl) dX1_stepsFrom_38 ⟨Nat.zero_le _, Nat.zero_le _⟩ rfl) (fun y3 hf => ?_)
        refine sc_R hf (rSN_S (As := [.int x4, .int y3]) (rest := []) E (mX6_neighborOf l x4 y3) (cwGN 2 okX6_neighborOf (hU.2.1 _ (List.mem_of_getElem? (i := 5) rfl)) hts rfl rfl ⟨Nat.le_of_ble_eq_true rfl, Nat.le_of_ble_eq_true rfl⟩) rfl hl.1 (Nat.le_of_ble_eq_true rfl) dX1_stepsFrom_41 ⟨Nat.zero_le _, Nat.zero_le _⟩ rfl) (fun y4 hf => ?_)
        refine lv_istore (lv' := [(4, .int y4), (0, .ref (ad fq)), (2, .ref (ad a2)), (3, .int x3)]) hx hb dX1_stepsFrom_44 hl (Nat.le_of_ble_eq_true rfl) rfl (fun ls hl => ?_)
        obtain ⟨z5, ez9, hf⟩ := nm_x hf
        refine lv_iinc (v := z5) (lv' := [(3, .int z5), (4, .int y4), (0, .ref (ad fq)), (2, .ref (ad a2))]) hx hb dX1_stepsFrom_46 hl (k := 3) rfl (by rw [ez9]; rfl) (Nat.le_of_ble_eq_true rfl) rfl (fun ls hl => ?_)
        refine lv_goto (tgt := 16) hx hb dX1_stepsFrom_49 rfl ?_
        exact ih _ _ _ hf (lv_sub hl [2, 3, 0, 1] rfl)
set_option maxRecDepth 100000 in
set_option maxHeartbeats 4000000 in
theorem mX1_stepsFrom (l : Launch) (K : Nat) (D : va_G) (G : Nat → ClassId) (ad : Nat → Nat) (r : sR) (v : sV) (n : Nat) (x : Int64 × UInt64) (hsh : sSh r) (hn : 172 ≤ n) (fq : Nat) (a2 : Nat) (hfq : okF r n fq) (hk2 : sks a2 = (10, 140)) (hl2 : lv r n a2) (x1 : Int32) : sMR l yX1_stepsFrom (.code yX1_stepsFrom cX1_stepsFrom 5 (some .int) :: wsL_law) rmX1_stepsFrom D G ad r v n x [.ref (ad fq), .int x1, .ref (ad a2)] (fX1_stepsFrom K fq a2 x1 v) := by
  intro res hf
  refine Met.ofW (cc := cX1_stepsFrom) (maxL := 5) (ret := (some .int)) (by decide) rfl ?_
  intro p e s m args below meth c s₁ B hml hv
  obtain ⟨rfl, hU, hP⟩ := hv
  have hx := B.exec
  have hb := B.bytes
  have hrt := B.returns
  have hts : ∀ w ∈ wsL_law, w.before _ s = true := fun w hw => atoms_spec (ws := .code yX1_stepsFrom cX1_stepsFrom 5 (some .int) :: wsL_law) B.pre w (List.mem_cons_of_mem _ hw)
  have hlocks := B.notSynchronized
  have E : CallFix p m c cX1_stepsFrom 5 s ([.ref (ad fq), .int x1, .ref (ad a2)] : List Value).toArray wsL_law RX1 := ⟨hx, hb, hml, findClass_of_methodNamed B.named, hts⟩
  have hl := lv_entry ([.ref (ad fq), .int x1, .ref (ad a2)]) (n := 5) (Nat.le_of_ble_eq_true rfl)
  rw [lg_entry_eq]
  generalize (lg_sl ([.ref (ad fq), .int x1, .ref (ad a2)]) ++ List.replicate (5 - (lg_sl ([.ref (ad fq), .int x1, .ref (ad a2)])).length) Slot.unset).toArray = ls at hl ⊢
  have hl : lv_has ls 5 [(0, .ref (ad fq)), (1, .int x1), (2, .ref (ad a2))] := hl
  have hf := (fX1_stepsFrom.eq_1 ..).symm.trans hf
  refine lv_aload_n hx hb dX1_stepsFrom_0 rfl (lv_at hl 0 rfl) ?_
  refine lv_iload_n hx hb dX1_stepsFrom_1 rfl (lv_at hl 1 rfl) ?_
  refine sc_R hf (rV_R (As := [.int x1]) (rest := []) E hU hP sc3 (okF_lt hfq) (okF_k hfq) (mX1_distanceOf l D G ad r _ n x hsh hn fq hfq x1) (cwGV 1 okX1_distanceOf wmX1_25 hts rfl rfl ⟨Nat.le_of_ble_eq_true rfl, Nat.le_of_ble_eq_true rfl⟩) rfl hl.1 (Nat.le_of_ble_eq_true rfl) dX1_stepsFrom_2 ⟨Nat.zero_le _, Nat.zero_le _⟩ rfl) (fun y1 hf => ?_)
  refine lv_iconst (v := (-1)) hx hb dX1_stepsFrom_5 rfl ?_
  refine lv_icmp_ne (tgt := 11) hx hb dX1_stepsFrom_6 rfl (fun hc => ?_) (fun hc => ?_)
  · have hf := ite_f hf hc
    refine lv_iconst (v := 0) hx hb dX1_stepsFrom_11 rfl ?_
    refine lv_istore_n (lv' := [(3, .int 0), (0, .ref (ad fq)), (1, .int x1), (2, .ref (ad a2))]) hx hb dX1_stepsFrom_12 rfl hl (Nat.le_of_ble_eq_true rfl) rfl (fun ls hl => ?_)
    refine lv_iload_n hx hb dX1_stepsFrom_13 rfl (lv_at hl 2 rfl) ?_
    refine lv_istore (lv' := [(4, .int x1), (3, .int 0), (0, .ref (ad fq)), (1, .int x1), (2, .ref (ad a2))]) hx hb dX1_stepsFrom_14 hl (Nat.le_of_ble_eq_true rfl) rfl (fun ls hl => ?_)
    exact lX1_stepsFrom_16 E hlocks hrt hU hsh hn hfq hk2 hl2 hP _ _ _ _ hf (lv_sub hl [2, 4, 1, 0] rfl)
  · have hf := ite_t hf hc
    refine lv_iconst (v := (-1)) hx hb dX1_stepsFrom_9 rfl ?_
    exact s_iretR E hrt hlocks hf dX1_stepsFrom_10
abbrev rmX1_reachedCells : Room := { frames := 0, cells := 0, slots := 0, locals := 0 }
set_option maxRecDepth 100000 in
set_option maxHeartbeats 4000000 in
theorem lX1_reachedCells_4 {K : Nat} {fq : Nat} {res : Int32} (E : CallFix p m c cX1_reachedCells 3 s args wsL_law RX1) (hlocks : meth.locks = false) (hrt : meth.sig.returnType = (some .int)) (hU : sU D G s) (hsh : sSh r) (hn : 172 ≤ n) (hfq : okF r n fq) {v : sV} (hP : va_P D vwCl (sWl G ad r v n x) s.heap) :
    ∀ (k : Nat) (x1 : Int32) (x2 : Int32) (ls : Array Slot), fx2 (gX1_reachedCells_4 K fq v) k x1 x2 = some res → lv_has ls 3 [(0, .ref (ad fq)), (1, .int x1), (2, .int x2)] → W p l e rmX1_reachedCells s m args below meth c s.heap [] 0 0 (MQ below (vp_Si (fun q => q = res)) args s 0 0 (fun _ => False)) (F0 m 4 ls []) := by
  have hx := E.1
  have hb := E.2.1
  have hts := E.2.2.2.2
  intro k
  induction k with
  | zero =>
    intro x1 x2 ls hf hl
    exact fx2_z hf
  | succ k ih =>
    intro x1 x2 ls hf hl
    have hf := (gX1_reachedCells_4.eq_1 ..).symm.trans hf
    refine lv_iload_n hx hb dX1_reachedCells_4 rfl (lv_at hl 2 rfl) ?_
    refine lv_sipush (v := 140) hx hb dX1_reachedCells_5 rfl ?_
    refine lv_icmp_ge (tgt := 30) hx hb dX1_reachedCells_8 rfl (fun hc => ?_) (fun hc => ?_)
    · have hf := ite_t hf hc
      refine lv_iload_n hx hb dX1_reachedCells_30 rfl (lv_at hl 1 rfl) ?_
      exact s_iretR E hrt hlocks hf dX1_reachedCells_31
    · have hf := ite_f hf hc
      refine lv_aload_n hx hb dX1_reachedCells_11 rfl (lv_at hl 0 rfl) ?_
      refine s_getR (k := 0) (t := (fq + 1)) E hU hP sc3 (okF_lt hfq) (okF_k hfq) inlX1 (Nat.le_of_ble_eq_true rfl) rfl rfl wkX1_9 hfq.2.1 dX1_reachedCells_12 ?_
      refine lv_iload_n hx hb dX1_reachedCells_15 rfl (lv_at hl 2 rfl) ?_
      refine s_iald E hU hP (okF_lt1 hfq) (okF_k1 hfq) dX1_reachedCells_16 hf (fun y1 hf => ?_)
      refine lv_iconst (v := (-1)) hx hb dX1_reachedCells_17 rfl ?_
      refine lv_icmp_eq (tgt := 24) hx hb dX1_reachedCells_18 rfl (fun hc => ?_) (fun hc => ?_)
      · have hf := ite_t hf hc
        obtain ⟨z2, ez9, hf⟩ := nm_x hf
        refine lv_iinc (v := z2) (lv' := [(2, .int z2), (0, .ref (ad fq)), (1, .int x1)]) hx hb dX1_reachedCells_24 hl (k := 2) rfl (by rw [ez9]; rfl) (Nat.le_of_ble_eq_true rfl) rfl (fun ls hl => ?_)
        refine lv_goto (tgt := 4) hx hb dX1_reachedCells_27 rfl ?_
        exact ih _ _ _ hf (lv_sub hl [1, 2, 0] rfl)
      · have hf := ite_f hf hc
        obtain ⟨z3, ez9, hf⟩ := nm_x hf
        refine lv_iinc (v := z3) (lv' := [(1, .int z3), (0, .ref (ad fq)), (2, .int x2)]) hx hb dX1_reachedCells_21 hl (k := 1) rfl (by rw [ez9]; rfl) (Nat.le_of_ble_eq_true rfl) rfl (fun ls hl => ?_)
        obtain ⟨z4, ez9, hf⟩ := nm_x hf
        refine lv_iinc (v := z4) (lv' := [(2, .int z4), (1, .int z3), (0, .ref (ad fq))]) hx hb dX1_reachedCells_24 hl (k := 2) rfl (by rw [ez9]; rfl) (Nat.le_of_ble_eq_true rfl) rfl (fun ls hl => ?_)
        refine lv_goto (tgt := 4) hx hb dX1_reachedCells_27 rfl ?_
        exact ih _ _ _ hf (lv_sub hl [2, 1, 0] rfl)
set_option maxRecDepth 100000 in
set_option maxHeartbeats 4000000 in
theorem mX1_reachedCells (l : Launch) (K : Nat) (D : va_G) (G : Nat → ClassId) (ad : Nat → Nat) (r : sR) (v : sV) (n : Nat) (x : Int64 × UInt64) (hsh : sSh r) (hn : 172 ≤ n) (fq : Nat) (hfq : okF r n fq) : sMR l yX1_reachedCells (.code yX1_reachedCells cX1_reachedCells 3 (some .int) :: wsL_law) rmX1_reachedCells D G ad r v n x [.ref (ad fq)] (fX1_reachedCells K fq v) := by
  intro res hf
  refine Met.ofW (cc := cX1_reachedCells) (maxL := 3) (ret := (some .int)) (by decide) rfl ?_
  intro p e s m args below meth c s₁ B hml hv
  obtain ⟨rfl, hU, hP⟩ := hv
  have hx := B.exec
  have hb := B.bytes
  have hrt := B.returns
  have hts : ∀ w ∈ wsL_law, w.before _ s = true := fun w hw => atoms_spec (ws := .code yX1_reachedCells cX1_reachedCells 3 (some .int) :: wsL_law) B.pre w (List.mem_cons_of_mem _ hw)
  have hlocks := B.notSynchronized
  have E : CallFix p m c cX1_reachedCells 3 s ([.ref (ad fq)] : List Value).toArray wsL_law RX1 := ⟨hx, hb, hml, findClass_of_methodNamed B.named, hts⟩
  have hl := lv_entry ([.ref (ad fq)]) (n := 3) (Nat.le_of_ble_eq_true rfl)
  rw [lg_entry_eq]
  generalize (lg_sl ([.ref (ad fq)]) ++ List.replicate (3 - (lg_sl ([.ref (ad fq)])).length) Slot.unset).toArray = ls at hl ⊢
  have hl : lv_has ls 3 [(0, .ref (ad fq))] := hl
  have hf := (fX1_reachedCells.eq_1 ..).symm.trans hf
  refine lv_iconst (v := 0) hx hb dX1_reachedCells_0 rfl ?_
  refine lv_istore_n (lv' := [(1, .int 0), (0, .ref (ad fq))]) hx hb dX1_reachedCells_1 rfl hl (Nat.le_of_ble_eq_true rfl) rfl (fun ls hl => ?_)
  refine lv_iconst (v := 0) hx hb dX1_reachedCells_2 rfl ?_
  refine lv_istore_n (lv' := [(2, .int 0), (1, .int 0), (0, .ref (ad fq))]) hx hb dX1_reachedCells_3 rfl hl (Nat.le_of_ble_eq_true rfl) rfl (fun ls hl => ?_)
  exact lX1_reachedCells_4 E hlocks hrt hU hsh hn hfq hP _ _ _ _ hf (lv_sub hl [2, 1, 0] rfl)
abbrev rmX2_enqueue : Room := { frames := 0, cells := 0, slots := 0, locals := 0 }
set_option maxRecDepth 100000 in
set_option maxHeartbeats 4000000 in
theorem mX2_enqueue (l : Launch) (D : va_G) (G : Nat → ClassId) (ad : Nat → Nat) (r : sR) (v : sV) (n : Nat) (x : Int64 × UInt64) (hsh : sSh r) (hn : 172 ≤ n) (x1 : Int32) (x2 : Int32) : sMV l yX2_enqueue (.code yX2_enqueue cX2_enqueue 4 none :: wsL_law) rmX2_enqueue D G ad r v n x [.ref (ad 14), .int x1, .int x2] (fX2_enqueue x1 x2 v) := by
  intro sz res hf
  refine Met.ofW (cc := cX2_enqueue) (maxL := 4) (ret := none) (by decide) rfl ?_
  intro p e s m args below meth c s₁ B hml hv
  obtain ⟨rfl, rfl, hU, hP, hD⟩ := hv
  have hx := B.exec
  have hb := B.bytes
  have hrt := B.returns
  have hts : ∀ w ∈ wsL_law, w.before _ s = true := fun w hw => atoms_spec (ws := .code yX2_enqueue cX2_enqueue 4 none :: wsL_law) B.pre w (List.mem_cons_of_mem _ hw)
  have hlocks := B.notSynchronized
  have E : CallFix p m c cX2_enqueue 4 s ([.ref (ad 14), .int x1, .int x2] : List Value).toArray wsL_law RX2 := ⟨hx, hb, hml, findClass_of_methodNamed B.named, hts⟩
  have hB : sB D G (sA ad r n s.heap.size) s.heap ad r v n x s.heap [] := ⟨hP, sD_self hD, va_S.rf⟩
  have hl := lv_entry ([.ref (ad 14), .int x1, .int x2]) (n := 4) (Nat.le_of_ble_eq_true rfl)
  rw [lg_entry_eq]
  generalize (lg_sl ([.ref (ad 14), .int x1, .int x2]) ++ List.replicate (4 - (lg_sl ([.ref (ad 14), .int x1, .int x2])).length) Slot.unset).toArray = ls at hl ⊢
  have hl : lv_has ls 4 [(0, .ref (ad 14)), (1, .int x1), (2, .int x2)] := hl
  have hf := (fX2_enqueue.eq_1 ..).symm.trans hf
  refine lv_iload_n hx hb dX2_enqueue_0 rfl (lv_at hl 2 rfl) ?_
  refine lv_bipush (v := 10) hx hb dX2_enqueue_1 rfl ?_
  refine lv_irem hx hb dX2_enqueue_3 (by decide) ?_
  refine s_nm hf (fun z1 hf => ?_)
  refine lv_istore_n (lv' := [(3, .int z1), (0, .ref (ad 14)), (1, .int x1), (2, .int x2)]) hx hb dX2_enqueue_4 rfl hl (Nat.le_of_ble_eq_true rfl) rfl (fun ls hl => ?_)
  refine lv_aload_n hx hb dX2_enqueue_5 rfl (lv_at hl 1 rfl) ?_
  refine s_getR (k := 3) (t := 19) E hU hB.1 sc4 (slt hsh hn 14 rfl) rfl inlX2 (Nat.le_of_ble_eq_true rfl) rfl rfl wkX2_26 (hsh.1 14 3 19 rfl) dX2_enqueue_6 ?_
  refine lv_iload_n hx hb dX2_enqueue_9 rfl (lv_at hl 2 rfl) ?_
  refine lv_aload_n hx hb dX2_enqueue_10 rfl (lv_at hl 1 rfl) ?_
  refine s_getR (k := 2) (t := 18) E hU hB.1 sc4 (slt hsh hn 14 rfl) rfl inlX2 (Nat.le_of_ble_eq_true rfl) rfl rfl wkX2_22 (hsh.1 14 2 18 rfl) dX2_enqueue_11 ?_
  refine lv_iload_n hx hb dX2_enqueue_14 rfl (lv_at hl 0 rfl) ?_
  refine s_iald E hU hB.1 (slt hsh hn 18 rfl) rfl dX2_enqueue_15 hf (fun y2 hf => ?_)
  refine s_iast E hU hB (slt hsh hn 19 rfl) rfl dX2_enqueue_16 hf (fun v3 hf H locs hB => ?_)
  refine lv_aload_n hx hb dX2_enqueue_17 rfl (lv_at hl 1 rfl) ?_
  refine s_getR (k := 2) (t := 18) E hU hB.1 sc4 (slt hsh hn 14 rfl) rfl inlX2 (Nat.le_of_ble_eq_true rfl) rfl rfl wkX2_22 (hsh.1 14 2 18 rfl) dX2_enqueue_18 ?_
  refine lv_iload_n hx hb dX2_enqueue_21 rfl (lv_at hl 0 rfl) ?_
  refine lv_iload_n hx hb dX2_enqueue_22 rfl (lv_at hl 2 rfl) ?_
  refine s_iast E hU hB (slt hsh hn 18 rfl) rfl dX2_enqueue_23 hf (fun v4 hf H locs hB => ?_)
  exact s_vretW E hrt hlocks hB hf dX2_enqueue_24
abbrev rmX2_spread : Room := { frames := 1, cells := 0, slots := 0, locals := 23 }
set_option maxRecDepth 100000 in
set_option maxHeartbeats 4000000 in
theorem lX2_spread_90 {K : Nat} {a2 : Nat} {a3 : Nat} {x5 : Int32} {x6 : Int32} {x7 : Int32} {k31 : Int32 → Int32 → sV → Option sV} {k70 : Int32 → Int32 → Int32 → sV → Option sV} {res : sV} (E : CallFix p m c cX2_spread 10 s args wsL_law RX2) (hlocks : meth.locks = false) (hrt : meth.sig.returnType = none) (hU : sU D G s) (hsh : sSh r) (hn : 172 ≤ n) (hk2 : sks a2 = (10, 140)) (hl2 : lv r n a2) (hk3 : sks a3 = (10, 140)) (hl3 : lv r n a3) (ih31 : ∀ (x4 : Int32) (x5 : Int32) (v : sV) (H : Heap) (locs : List Loc) (ls : Array Slot), k31 x4 x5 v = some res → sB D G (sA ad r n s.heap.size) s.heap ad r v n x H locs → lv_has ls 10 [(0, .ref (ad 14)), (2, .ref (ad a2)), (3, .ref (ad a3)), (4, .int x4), (5, .int x5)] → W p l e rmX2_spread s m args below meth c H locs 0 0 (MQ below (sQV D G ad r n x s.heap.size res) args s 0 0 (sA ad r n s.heap.size)) (F0 m 31 ls [])) (ih70 : ∀ (x4 : Int32) (x6 : Int32) (x7 : Int32) (v : sV) (H : Heap) (locs : List Loc) (ls : Array Slot), k70 x4 x6 x7 v = some res → sB D G (sA ad r n s.heap.size) s.heap ad r v n x H locs → lv_has ls 10 [(0, .ref (ad 14)), (2, .ref (ad a2)), (3, .ref (ad a3)), (4, .int x4), (5, .int x5), (6, .int x6), (7, .int x7)] → W p l e rmX2_spread s m args below meth c H locs 0 0 (MQ below (sQV D G ad r n x s.heap.size res) args s 0 0 (sA ad r n s.heap.size)) (F0 m 70 ls [])) :
    ∀ (k : Nat) (x4 : Int32) (x8 : Int32) (v : sV) (H : Heap) (locs : List Loc) (ls : Array Slot), fx3 (gX2_spread_90 K a2 a3 k31 k70 x5 x6 x7) k x4 x8 v = some res → sB D G (sA ad r n s.heap.size) s.heap ad r v n x H locs → lv_has ls 10 [(0, .ref (ad 14)), (2, .ref (ad a2)), (3, .ref (ad a3)), (4, .int x4), (5, .int x5), (6, .int x6), (7, .int x7), (8, .int x8)] → W p l e rmX2_spread s m args below meth c H locs 0 0 (MQ below (sQV D G ad r n x s.heap.size res) args s 0 0 (sA ad r n s.heap.size)) (F0 m 90 ls []) := by
  have hx := E.1
  have hb := E.2.1
  have hts := E.2.2.2.2
  intro k
  induction k with
  | zero =>
    intro x4 x8 v H locs ls hf hB hl
    exact fx3_z hf
  | succ k ih =>
    intro x4 x8 v H locs ls hf hB hl
    have hf := (gX2_spread_90.eq_1 ..).symm.trans hf
    refine lv_iload hx hb dX2_spread_90 (lv_at hl 7 rfl) ?_
    refine lv_iconst (v := 4) hx hb dX2_spread_92 rfl ?_
    refine lv_icmp_ge (tgt := 154) hx hb dX2_spread_93 rfl (fun hc => ?_) (fun hc => ?_)
    · have hf := ite_t hf hc
      refine lv_aload_n hx hb dX2_spread_154 rfl (lv_at hl 0 rfl) ?_
      refine s_getR (k := 3) (t := 19) E hU hB.1 sc4 (slt hsh hn 14 rfl) rfl inlX2 (Nat.le_of_ble_eq_true rfl) rfl rfl wkX2_26 (hsh.1 14 3 19 rfl) dX2_spread_155 ?_
      refine lv_iload hx hb dX2_spread_158 (lv_at hl 5 rfl) ?_
      refine s_iald E hU hB.1 (slt hsh hn 19 rfl) rfl dX2_spread_160 hf (fun y11 hf => ?_)
      refine lv_istore (lv' := [(6, .int y11), (0, .ref (ad 14)), (2, .ref (ad a2)), (3, .ref (ad a3)), (4, .int x4), (5, .int x5), (7, .int x7), (8, .int x8)]) hx hb dX2_spread_161 hl (Nat.le_of_ble_eq_true rfl) rfl (fun ls hl => ?_)
      obtain ⟨z12, ez9, hf⟩ := nm_x hf
      refine lv_iinc (v := z12) (lv' := [(7, .int z12), (6, .int y11), (0, .ref (ad 14)), (2, .ref (ad a2)), (3, .ref (ad a3)), (4, .int x4), (5, .int x5), (8, .int x8)]) hx hb dX2_spread_163 hl (k := 6) rfl (by rw [ez9]; rfl) (Nat.le_of_ble_eq_true rfl) rfl (fun ls hl => ?_)
      refine lv_goto (tgt := 70) hx hb dX2_spread_166 rfl ?_
      exact ih70 _ _ _ _ _ _ _ hf hB (lv_sub hl [2, 3, 4, 5, 6, 1, 0] rfl)
    · have hf := ite_f hf hc
      refine lv_iload hx hb dX2_spread_96 (lv_at hl 5 rfl) ?_
      refine lv_iload hx hb dX2_spread_98 (lv_at hl 7 rfl) ?_
      refine sc_R hf (rSN_S (As := [.int x6, .int x8]) (rest := []) E (mX6_neighborOf l x6 x8) (cwGN 2 okX6_neighborOf (hU.2.1 _ (List.mem_of_getElem? (i := 4) rfl)) hts rfl rfl ⟨Nat.le_of_ble_eq_true rfl, Nat.le_of_ble_eq_true rfl⟩) rfl hl.1 (Nat.le_of_ble_eq_true rfl) dX2_spread_100 ⟨Nat.zero_le _, Nat.zero_le _⟩ rfl) (fun y13 hf => ?_)
      refine lv_istore (lv' := [(9, .int y13), (0, .ref (ad 14)), (2, .ref (ad a2)), (3, .ref (ad a3)), (4, .int x4), (5, .int x5), (6, .int x6), (7, .int x7), (8, .int x8)]) hx hb dX2_spread_103 hl (Nat.le_of_ble_eq_true rfl) rfl (fun ls hl => ?_)
      refine lv_iload hx hb dX2_spread_105 (lv_at hl 0 rfl) ?_
      refine lv_iconst (v := (-1)) hx hb dX2_spread_107 rfl ?_
      refine lv_icmp_eq (tgt := 148) hx hb dX2_spread_108 rfl (fun hc => ?_) (fun hc => ?_)
      · have hf := ite_t hf hc
        obtain ⟨z14, ez9, hf⟩ := nm_x hf
        refine lv_iinc (v := z14) (lv' := [(8, .int z14), (9, .int y13), (0, .ref (ad 14)), (2, .ref (ad a2)), (3, .ref (ad a3)), (4, .int x4), (5, .int x5), (6, .int x6), (7, .int x7)]) hx hb dX2_spread_148 hl (k := 8) rfl (by rw [ez9]; rfl) (Nat.le_of_ble_eq_true rfl) rfl (fun ls hl => ?_)
        refine lv_goto (tgt := 90) hx hb dX2_spread_151 rfl ?_
        exact ih _ _ _ _ _ _ hf hB (lv_sub hl [2, 3, 4, 5, 6, 7, 8, 0] rfl)
      · have hf := ite_f hf hc
        refine lv_aload_n hx hb dX2_spread_111 rfl (lv_at hl 2 rfl) ?_
        refine lv_iload hx hb dX2_spread_112 (lv_at hl 0 rfl) ?_
        refine s_iald E hU hB.1 hl2 hk2 dX2_spread_114 hf (fun y15 hf => ?_)
        refine lv_if_eq (tgt := 148) hx hb dX2_spread_115 rfl (fun hc => ?_) (fun hc => ?_)
        · have hf := ite_t hf hc
          obtain ⟨z16, ez9, hf⟩ := nm_x hf
          refine lv_iinc (v := z16) (lv' := [(8, .int z16), (9, .int y13), (0, .ref (ad 14)), (2, .ref (ad a2)), (3, .ref (ad a3)), (4, .int x4), (5, .int x5), (6, .int x6), (7, .int x7)]) hx hb dX2_spread_148 hl (k := 8) rfl (by rw [ez9]; rfl) (Nat.le_of_ble_eq_true rfl) rfl (fun ls hl => ?_)
          refine lv_goto (tgt := 90) hx hb dX2_spread_151 rfl ?_
          exact ih _ _ _ _ _ _ hf hB (lv_sub hl [2, 3, 4, 5, 6, 7, 8, 0] rfl)
        · have hf := ite_f hf hc
          refine lv_aload_n hx hb dX2_spread_118 rfl (lv_at hl 3 rfl) ?_
          refine lv_iload hx hb dX2_spread_119 (lv_at hl 0 rfl) ?_
          refine s_iald E hU hB.1 hl3 hk3 dX2_spread_121 hf (fun y17 hf => ?_)
          refine lv_iconst (v := (-1)) hx hb dX2_spread_122 rfl ?_
          refine lv_icmp_ne (tgt := 148) hx hb dX2_spread_123 rfl (fun hc => ?_) (fun hc => ?_)
          · have hf := ite_f hf hc
            obtain ⟨z18, ez9, hf⟩ := nm_x hf
            refine lv_iinc (v := z18) (lv' := [(8, .int z18), (9, .int y13), (0, .ref (ad 14)), (2, .ref (ad a2)), (3, .ref (ad a3)), (4, .int x4), (5, .int x5), (6, .int x6), (7, .int x7)]) hx hb dX2_spread_148 hl (k := 8) rfl (by rw [ez9]; rfl) (Nat.le_of_ble_eq_true rfl) rfl (fun ls hl => ?_)
            refine lv_goto (tgt := 90) hx hb dX2_spread_151 rfl ?_
            exact ih _ _ _ _ _ _ hf hB (lv_sub hl [2, 3, 4, 5, 6, 7, 8, 0] rfl)
          · have hf := ite_t hf hc
            refine lv_aload_n hx hb dX2_spread_126 rfl (lv_at hl 3 rfl) ?_
            refine lv_iload hx hb dX2_spread_127 (lv_at hl 0 rfl) ?_
            refine lv_iload hx hb dX2_spread_129 (lv_at hl 5 rfl) ?_
            refine s_iast E hU hB hl3 hk3 dX2_spread_131 hf (fun v19 hf H locs hB => ?_)
            refine lv_aload_n hx hb dX2_spread_132 rfl (lv_at hl 1 rfl) ?_
            refine lv_iload hx hb dX2_spread_133 (lv_at hl 0 rfl) ?_
            refine lv_iload hx hb dX2_spread_135 (lv_at hl 5 rfl) ?_
            refine lv_aload_n hx hb dX2_spread_137 rfl (lv_at hl 2 rfl) ?_
            refine lv_iload hx hb dX2_spread_138 (lv_at hl 0 rfl) ?_
            refine s_iald E hU hB.1 hl2 hk2 dX2_spread_140 hf (fun y20 hf => ?_)
            refine lv_iadd hx hb dX2_spread_141 ?_
            refine sc_V hB (fun q h => Or.inr h) hf (fun q9 h9 => rV_W (As := [.int y13, .int (x5 + y20)]) (rest := []) E hU hB sc4 (slt hsh hn 14 rfl) rfl ((mX2_enqueue l D G ad r _ n x hsh hn y13 (x5 + y20)) _ _ h9) (cwGV 2 okX2_enqueue wmX2_46 hts rfl rfl ⟨Nat.le_of_ble_eq_true rfl, Nat.le_of_ble_eq_true rfl⟩) rfl hl.1 (Nat.le_of_ble_eq_true rfl) dX2_spread_142 ⟨Nat.zero_le _, Nat.zero_le _⟩ rfl) (fun v21 hf H locs hB => ?_)
            obtain ⟨z22, ez9, hf⟩ := nm_x hf
            refine lv_iinc (v := z22) (lv' := [(4, .int z22), (9, .int y13), (0, .ref (ad 14)), (2, .ref (ad a2)), (3, .ref (ad a3)), (5, .int x5), (6, .int x6), (7, .int x7), (8, .int x8)]) hx hb dX2_spread_145 hl (k := 4) rfl (by rw [ez9]; rfl) (Nat.le_of_ble_eq_true rfl) rfl (fun ls hl => ?_)
            obtain ⟨z23, ez9, hf⟩ := nm_x hf
            refine lv_iinc (v := z23) (lv' := [(8, .int z23), (4, .int z22), (9, .int y13), (0, .ref (ad 14)), (2, .ref (ad a2)), (3, .ref (ad a3)), (5, .int x5), (6, .int x6), (7, .int x7)]) hx hb dX2_spread_148 hl (k := 8) rfl (by rw [ez9]; rfl) (Nat.le_of_ble_eq_true rfl) rfl (fun ls hl => ?_)
            refine lv_goto (tgt := 90) hx hb dX2_spread_151 rfl ?_
            exact ih _ _ _ _ _ _ hf hB (lv_sub hl [3, 4, 5, 1, 6, 7, 8, 0] rfl)
set_option maxRecDepth 100000 in
set_option maxHeartbeats 4000000 in
theorem lX2_spread_70 {K : Nat} {a2 : Nat} {a3 : Nat} {x5 : Int32} {k31 : Int32 → Int32 → sV → Option sV} {res : sV} (E : CallFix p m c cX2_spread 10 s args wsL_law RX2) (hlocks : meth.locks = false) (hrt : meth.sig.returnType = none) (hU : sU D G s) (hsh : sSh r) (hn : 172 ≤ n) (hk2 : sks a2 = (10, 140)) (hl2 : lv r n a2) (hk3 : sks a3 = (10, 140)) (hl3 : lv r n a3) (ih31 : ∀ (x4 : Int32) (x5 : Int32) (v : sV) (H : Heap) (locs : List Loc) (ls : Array Slot), k31 x4 x5 v = some res → sB D G (sA ad r n s.heap.size) s.heap ad r v n x H locs → lv_has ls 10 [(0, .ref (ad 14)), (2, .ref (ad a2)), (3, .ref (ad a3)), (4, .int x4), (5, .int x5)] → W p l e rmX2_spread s m args below meth c H locs 0 0 (MQ below (sQV D G ad r n x s.heap.size res) args s 0 0 (sA ad r n s.heap.size)) (F0 m 31 ls [])) :
    ∀ (k : Nat) (x4 : Int32) (x6 : Int32) (x7 : Int32) (v : sV) (H : Heap) (locs : List Loc) (ls : Array Slot), fx4 (gX2_spread_70 K a2 a3 k31 x5) k x4 x6 x7 v = some res → sB D G (sA ad r n s.heap.size) s.heap ad r v n x H locs → lv_has ls 10 [(0, .ref (ad 14)), (2, .ref (ad a2)), (3, .ref (ad a3)), (4, .int x4), (5, .int x5), (6, .int x6), (7, .int x7)] → W p l e rmX2_spread s m args below meth c H locs 0 0 (MQ below (sQV D G ad r n x s.heap.size res) args s 0 0 (sA ad r n s.heap.size)) (F0 m 70 ls []) := by
  have hx := E.1
  have hb := E.2.1
  have hts := E.2.2.2.2
  intro k
  induction k with
  | zero =>
    intro x4 x6 x7 v H locs ls hf hB hl
    exact fx4_z hf
  | succ k ih =>
    intro x4 x6 x7 v H locs ls hf hB hl
    have hf := (gX2_spread_70.eq_1 ..).symm.trans hf
    refine lv_iload hx hb dX2_spread_70 (lv_at hl 6 rfl) ?_
    refine lv_sipush (v := 140) hx hb dX2_spread_72 rfl ?_
    refine lv_icmp_ge (tgt := 169) hx hb dX2_spread_75 rfl (fun hc => ?_) (fun hc => ?_)
    · have hf := ite_t hf hc
      obtain ⟨z8, ez9, hf⟩ := nm_x hf
      refine lv_iinc (v := z8) (lv' := [(5, .int z8), (0, .ref (ad 14)), (2, .ref (ad a2)), (3, .ref (ad a3)), (4, .int x4), (6, .int x6), (7, .int x7)]) hx hb dX2_spread_169 hl (k := 4) rfl (by rw [ez9]; rfl) (Nat.le_of_ble_eq_true rfl) rfl (fun ls hl => ?_)
      refine lv_goto (tgt := 31) hx hb dX2_spread_172 rfl ?_
      exact ih31 _ _ _ _ _ _ hf hB (lv_sub hl [1, 2, 3, 4, 0] rfl)
    · have hf := ite_f hf hc
      refine lv_iload hx hb dX2_spread_78 (lv_at hl 5 rfl) ?_
      refine lv_iconst (v := (-1)) hx hb dX2_spread_80 rfl ?_
      refine lv_icmp_eq (tgt := 169) hx hb dX2_spread_81 rfl (fun hc => ?_) (fun hc => ?_)
      · have hf := ite_t hf hc
        obtain ⟨z9, ez9, hf⟩ := nm_x hf
        refine lv_iinc (v := z9) (lv' := [(5, .int z9), (0, .ref (ad 14)), (2, .ref (ad a2)), (3, .ref (ad a3)), (4, .int x4), (6, .int x6), (7, .int x7)]) hx hb dX2_spread_169 hl (k := 4) rfl (by rw [ez9]; rfl) (Nat.le_of_ble_eq_true rfl) rfl (fun ls hl => ?_)
        refine lv_goto (tgt := 31) hx hb dX2_spread_172 rfl ?_
        exact ih31 _ _ _ _ _ _ hf hB (lv_sub hl [1, 2, 3, 4, 0] rfl)
      · have hf := ite_f hf hc
        obtain ⟨z10, ez9, hf⟩ := nm_x hf
        refine lv_iinc (v := z10) (lv' := [(4, .int z10), (0, .ref (ad 14)), (2, .ref (ad a2)), (3, .ref (ad a3)), (5, .int x5), (6, .int x6), (7, .int x7)]) hx hb dX2_spread_84 hl (k := 3) rfl (by rw [ez9]; rfl) (Nat.le_of_ble_eq_true rfl) rfl (fun ls hl => ?_)
        refine lv_iconst (v := 0) hx hb dX2_spread_87 rfl ?_
        refine lv_istore (lv' := [(8, .int 0), (4, .int z10), (0, .ref (ad 14)), (2, .ref (ad a2)), (3, .ref (ad a3)), (5, .int x5), (6, .int x6), (7, .int x7)]) hx hb dX2_spread_88 hl (Nat.le_of_ble_eq_true rfl) rfl (fun ls hl => ?_)
        exact lX2_spread_90 E hlocks hrt hU hsh hn hk2 hl2 hk3 hl3 ih31 ih _ _ _ _ _ _ _ hf hB (lv_sub hl [2, 3, 4, 1, 5, 6, 7, 0] rfl)
set_option maxRecDepth 100000 in
set_option maxHeartbeats 4000000 in
theorem lX2_spread_31 {K : Nat} {a2 : Nat} {a3 : Nat} {res : sV} (E : CallFix p m c cX2_spread 10 s args wsL_law RX2) (hlocks : meth.locks = false) (hrt : meth.sig.returnType = none) (hU : sU D G s) (hsh : sSh r) (hn : 172 ≤ n) (hk2 : sks a2 = (10, 140)) (hl2 : lv r n a2) (hk3 : sks a3 = (10, 140)) (hl3 : lv r n a3) :
    ∀ (k : Nat) (x4 : Int32) (x5 : Int32) (v : sV) (H : Heap) (locs : List Loc) (ls : Array Slot), fx3 (gX2_spread_31 K a2 a3) k x4 x5 v = some res → sB D G (sA ad r n s.heap.size) s.heap ad r v n x H locs → lv_has ls 10 [(0, .ref (ad 14)), (2, .ref (ad a2)), (3, .ref (ad a3)), (4, .int x4), (5, .int x5)] → W p l e rmX2_spread s m args below meth c H locs 0 0 (MQ below (sQV D G ad r n x s.heap.size res) args s 0 0 (sA ad r n s.heap.size)) (F0 m 31 ls []) := by
  have hx := E.1
  have hb := E.2.1
  have hts := E.2.2.2.2
  intro k
  induction k with
  | zero =>
    intro x4 x5 v H locs ls hf hB hl
    exact fx3_z hf
  | succ k ih =>
    intro x4 x5 v H locs ls hf hB hl
    have hf := (gX2_spread_31.eq_1 ..).symm.trans hf
    refine lv_iload hx hb dX2_spread_31 (lv_at hl 4 rfl) ?_
    refine lv_sipush (v := 1260) hx hb dX2_spread_33 rfl ?_
    refine lv_icmp_gt (tgt := 175) hx hb dX2_spread_36 rfl (fun hc => ?_) (fun hc => ?_)
    · have hf := ite_t hf hc
      exact s_vretW E hrt hlocks hB hf dX2_spread_175
    · have hf := ite_f hf hc
      refine lv_iload hx hb dX2_spread_39 (lv_at hl 3 rfl) ?_
      refine lv_if_le (tgt := 175) hx hb dX2_spread_41 rfl (fun hc => ?_) (fun hc => ?_)
      · have hf := ite_t hf hc
        exact s_vretW E hrt hlocks hB hf dX2_spread_175
      · have hf := ite_f hf hc
        refine lv_aload_n hx hb dX2_spread_44 rfl (lv_at hl 0 rfl) ?_
        refine s_getR (k := 2) (t := 18) E hU hB.1 sc4 (slt hsh hn 14 rfl) rfl inlX2 (Nat.le_of_ble_eq_true rfl) rfl rfl wkX2_22 (hsh.1 14 2 18 rfl) dX2_spread_45 ?_
        refine lv_iload hx hb dX2_spread_48 (lv_at hl 4 rfl) ?_
        refine lv_bipush (v := 10) hx hb dX2_spread_50 rfl ?_
        refine lv_irem hx hb dX2_spread_52 (by decide) ?_
        refine s_iald E hU hB.1 (slt hsh hn 18 rfl) rfl dX2_spread_53 hf (fun y6 hf => ?_)
        refine lv_istore (lv' := [(6, .int y6), (0, .ref (ad 14)), (2, .ref (ad a2)), (3, .ref (ad a3)), (4, .int x4), (5, .int x5)]) hx hb dX2_spread_54 hl (Nat.le_of_ble_eq_true rfl) rfl (fun ls hl => ?_)
        refine lv_aload_n hx hb dX2_spread_56 rfl (lv_at hl 1 rfl) ?_
        refine s_getR (k := 2) (t := 18) E hU hB.1 sc4 (slt hsh hn 14 rfl) rfl inlX2 (Nat.le_of_ble_eq_true rfl) rfl rfl wkX2_22 (hsh.1 14 2 18 rfl) dX2_spread_57 ?_
        refine lv_iload hx hb dX2_spread_60 (lv_at hl 5 rfl) ?_
        refine lv_bipush (v := 10) hx hb dX2_spread_62 rfl ?_
        refine lv_irem hx hb dX2_spread_64 (by decide) ?_
        refine lv_iconst (v := (-1)) hx hb dX2_spread_65 rfl ?_
        refine s_iast E hU hB (slt hsh hn 18 rfl) rfl dX2_spread_66 hf (fun v7 hf H locs hB => ?_)
        refine lv_iconst (v := 0) hx hb dX2_spread_67 rfl ?_
        refine lv_istore (lv' := [(7, .int 0), (6, .int y6), (0, .ref (ad 14)), (2, .ref (ad a2)), (3, .ref (ad a3)), (4, .int x4), (5, .int x5)]) hx hb dX2_spread_68 hl (Nat.le_of_ble_eq_true rfl) rfl (fun ls hl => ?_)
        exact lX2_spread_70 E hlocks hrt hU hsh hn hk2 hl2 hk3 hl3 ih _ _ _ _ _ _ _ _ hf hB (lv_sub hl [2, 3, 4, 5, 6, 1, 0] rfl)
set_option maxRecDepth 100000 in
set_option maxHeartbeats 4000000 in
theorem mX2_spread (l : Launch) (K : Nat) (D : va_G) (G : Nat → ClassId) (ad : Nat → Nat) (r : sR) (v : sV) (n : Nat) (x : Int64 × UInt64) (hsh : sSh r) (hn : 172 ≤ n) (a2 : Nat) (a3 : Nat) (hk2 : sks a2 = (10, 140)) (hl2 : lv r n a2) (hk3 : sks a3 = (10, 140)) (hl3 : lv r n a3) (x1 : Int32) : sMV l yX2_spread (.code yX2_spread cX2_spread 10 none :: wsL_law) rmX2_spread D G ad r v n x [.ref (ad 14), .int x1, .ref (ad a2), .ref (ad a3)] (fX2_spread K a2 a3 x1 v) := by
  intro sz res hf
  refine Met.ofW (cc := cX2_spread) (maxL := 10) (ret := none) (by decide) rfl ?_
  intro p e s m args below meth c s₁ B hml hv
  obtain ⟨rfl, rfl, hU, hP, hD⟩ := hv
  have hx := B.exec
  have hb := B.bytes
  have hrt := B.returns
  have hts : ∀ w ∈ wsL_law, w.before _ s = true := fun w hw => atoms_spec (ws := .code yX2_spread cX2_spread 10 none :: wsL_law) B.pre w (List.mem_cons_of_mem _ hw)
  have hlocks := B.notSynchronized
  have E : CallFix p m c cX2_spread 10 s ([.ref (ad 14), .int x1, .ref (ad a2), .ref (ad a3)] : List Value).toArray wsL_law RX2 := ⟨hx, hb, hml, findClass_of_methodNamed B.named, hts⟩
  have hB : sB D G (sA ad r n s.heap.size) s.heap ad r v n x s.heap [] := ⟨hP, sD_self hD, va_S.rf⟩
  have hl := lv_entry ([.ref (ad 14), .int x1, .ref (ad a2), .ref (ad a3)]) (n := 10) (Nat.le_of_ble_eq_true rfl)
  rw [lg_entry_eq]
  generalize (lg_sl ([.ref (ad 14), .int x1, .ref (ad a2), .ref (ad a3)]) ++ List.replicate (10 - (lg_sl ([.ref (ad 14), .int x1, .ref (ad a2), .ref (ad a3)])).length) Slot.unset).toArray = ls at hl ⊢
  have hl : lv_has ls 10 [(0, .ref (ad 14)), (1, .int x1), (2, .ref (ad a2)), (3, .ref (ad a3))] := hl
  have hf := (fX2_spread.eq_1 ..).symm.trans hf
  refine lv_aload_n hx hb dX2_spread_0 rfl (lv_at hl 3 rfl) ?_
  refine lv_iconst (v := (-1)) hx hb dX2_spread_1 rfl ?_
  refine sc_V hB (fun q h => Or.inr h) hf (fun q9 h9 => rS_W (As := [.ref (ad a3), .int (-1)]) (rest := []) E hU hB ((mJ7_fill_53178 l K D G ad r _ n x a3 140 hk3 hl3 (-1)) _ _ h9) (cwGS 2 okJ7_fill_53178 wmX2_40 hts rfl rfl ⟨Nat.le_of_ble_eq_true rfl, Nat.le_of_ble_eq_true rfl⟩) rfl hl.1 (Nat.le_of_ble_eq_true rfl) dX2_spread_2 ⟨Nat.zero_le _, Nat.zero_le _⟩ rfl) (fun v1 hf H locs hB => ?_)
  refine lv_aload_n hx hb dX2_spread_5 rfl (lv_at hl 0 rfl) ?_
  refine s_getR (k := 2) (t := 18) E hU hB.1 sc4 (slt hsh hn 14 rfl) rfl inlX2 (Nat.le_of_ble_eq_true rfl) rfl rfl wkX2_22 (hsh.1 14 2 18 rfl) dX2_spread_6 ?_
  refine lv_iconst (v := (-1)) hx hb dX2_spread_9 rfl ?_
  refine sc_V hB (fun q h => Or.inr h) hf (fun q9 h9 => rS_W (As := [.ref (ad 18), .int (-1)]) (rest := []) E hU hB ((mJ7_fill_53178 l K D G ad r _ n x 18 10 rfl (slt hsh hn 18 rfl) (-1)) _ _ h9) (cwGS 2 okJ7_fill_53178 wmX2_40 hts rfl rfl ⟨Nat.le_of_ble_eq_true rfl, Nat.le_of_ble_eq_true rfl⟩) rfl hl.1 (Nat.le_of_ble_eq_true rfl) dX2_spread_10 ⟨Nat.zero_le _, Nat.zero_le _⟩ rfl) (fun v2 hf H locs hB => ?_)
  refine lv_aload_n hx hb dX2_spread_13 rfl (lv_at hl 3 rfl) ?_
  refine lv_iload_n hx hb dX2_spread_14 rfl (lv_at hl 1 rfl) ?_
  refine lv_iconst (v := 0) hx hb dX2_spread_15 rfl ?_
  refine s_iast E hU hB hl3 hk3 dX2_spread_16 hf (fun v3 hf H locs hB => ?_)
  refine lv_aload_n hx hb dX2_spread_17 rfl (lv_at hl 0 rfl) ?_
  refine lv_iload_n hx hb dX2_spread_18 rfl (lv_at hl 1 rfl) ?_
  refine lv_aload_n hx hb dX2_spread_19 rfl (lv_at hl 2 rfl) ?_
  refine lv_iload_n hx hb dX2_spread_20 rfl (lv_at hl 1 rfl) ?_
  refine s_iald E hU hB.1 hl2 hk2 dX2_spread_21 hf (fun y4 hf => ?_)
  refine sc_V hB (fun q h => Or.inr h) hf (fun q9 h9 => rV_W (As := [.int x1, .int y4]) (rest := []) E hU hB sc4 (slt hsh hn 14 rfl) rfl ((mX2_enqueue l D G ad r _ n x hsh hn x1 y4) _ _ h9) (cwGV 2 okX2_enqueue wmX2_46 hts rfl rfl ⟨Nat.le_of_ble_eq_true rfl, Nat.le_of_ble_eq_true rfl⟩) rfl hl.1 (Nat.le_of_ble_eq_true rfl) dX2_spread_22 ⟨Nat.zero_le _, Nat.zero_le _⟩ rfl) (fun v5 hf H locs hB => ?_)
  refine lv_iconst (v := 1) hx hb dX2_spread_25 rfl ?_
  refine lv_istore (lv' := [(4, .int 1), (0, .ref (ad 14)), (1, .int x1), (2, .ref (ad a2)), (3, .ref (ad a3))]) hx hb dX2_spread_26 hl (Nat.le_of_ble_eq_true rfl) rfl (fun ls hl => ?_)
  refine lv_iconst (v := 1) hx hb dX2_spread_28 rfl ?_
  refine lv_istore (lv' := [(5, .int 1), (4, .int 1), (0, .ref (ad 14)), (1, .int x1), (2, .ref (ad a2)), (3, .ref (ad a3))]) hx hb dX2_spread_29 hl (Nat.le_of_ble_eq_true rfl) rfl (fun ls hl => ?_)
  exact lX2_spread_31 E hlocks hrt hU hsh hn hk2 hl2 hk3 hl3 _ _ _ _ _ _ _ hf hB (lv_sub hl [2, 4, 5, 1, 0] rfl)
abbrev rmX3_clear : Room := { frames := 0, cells := 0, slots := 0, locals := 0 }
set_option maxRecDepth 100000 in
set_option maxHeartbeats 4000000 in
theorem mX3_clear (l : Launch) (D : va_G) (G : Nat → ClassId) (ad : Nat → Nat) (r : sR) (v : sV) (n : Nat) (x : Int64 × UInt64) (hsh : sSh r) (hn : 172 ≤ n) : sMV l yX3_clear (.code yX3_clear cX3_clear 1 none :: wsL_law) rmX3_clear D G ad r v n x [.ref (ad 35)] (fX3_clear v) := by
  intro sz res hf
  refine Met.ofW (cc := cX3_clear) (maxL := 1) (ret := none) (by decide) rfl ?_
  intro p e s m args below meth c s₁ B hml hv
  obtain ⟨rfl, rfl, hU, hP, hD⟩ := hv
  have hx := B.exec
  have hb := B.bytes
  have hrt := B.returns
  have hts : ∀ w ∈ wsL_law, w.before _ s = true := fun w hw => atoms_spec (ws := .code yX3_clear cX3_clear 1 none :: wsL_law) B.pre w (List.mem_cons_of_mem _ hw)
  have hlocks := B.notSynchronized
  have E : CallFix p m c cX3_clear 1 s ([.ref (ad 35)] : List Value).toArray wsL_law RX3 := ⟨hx, hb, hml, findClass_of_methodNamed B.named, hts⟩
  have hB : sB D G (sA ad r n s.heap.size) s.heap ad r v n x s.heap [] := ⟨hP, sD_self hD, va_S.rf⟩
  have hl := lv_entry ([.ref (ad 35)]) (n := 1) (Nat.le_of_ble_eq_true rfl)
  rw [lg_entry_eq]
  generalize (lg_sl ([.ref (ad 35)]) ++ List.replicate (1 - (lg_sl ([.ref (ad 35)])).length) Slot.unset).toArray = ls at hl ⊢
  have hl : lv_has ls 1 [(0, .ref (ad 35))] := hl
  have hf := (fX3_clear.eq_1 ..).symm.trans hf
  refine lv_aload_n hx hb dX3_clear_0 rfl (lv_at hl 0 rfl) ?_
  refine lv_iconst (v := 0) hx hb dX3_clear_1 rfl ?_
  refine s_putI (k := 2) (ty1 := .int) E hU hB sc5 (slt hsh hn 35 rfl) rfl inlX3 (Nat.le_of_ble_eq_true rfl) rfl rfl wkX3_26 rfl rfl rfl rfl dX3_clear_2 hf (fun v1 hf H locs hB => ?_)
  exact s_vretW E hrt hlocks hB hf dX3_clear_5
abbrev rmX4_isFull : Room := { frames := 0, cells := 0, slots := 0, locals := 0 }
set_option maxRecDepth 100000 in
set_option maxHeartbeats 4000000 in
theorem mX4_isFull (l : Launch) (D : va_G) (G : Nat → ClassId) (ad : Nat → Nat) (r : sR) (v : sV) (n : Nat) (x : Int64 × UInt64) (hsh : sSh r) (hn : 172 ≤ n) : sMR l yX4_isFull (.code yX4_isFull cX4_isFull 1 (some .boolean) :: wsL_law) rmX4_isFull D G ad r v n x [.ref (ad 154)] (fX4_isFull v) := by
  intro res hf
  refine Met.ofW (cc := cX4_isFull) (maxL := 1) (ret := (some .boolean)) (by decide) rfl ?_
  intro p e s m args below meth c s₁ B hml hv
  obtain ⟨rfl, hU, hP⟩ := hv
  have hx := B.exec
  have hb := B.bytes
  have hrt := B.returns
  have hts : ∀ w ∈ wsL_law, w.before _ s = true := fun w hw => atoms_spec (ws := .code yX4_isFull cX4_isFull 1 (some .boolean) :: wsL_law) B.pre w (List.mem_cons_of_mem _ hw)
  have hlocks := B.notSynchronized
  have E : CallFix p m c cX4_isFull 1 s ([.ref (ad 154)] : List Value).toArray wsL_law RX4 := ⟨hx, hb, hml, findClass_of_methodNamed B.named, hts⟩
  have hl := lv_entry ([.ref (ad 154)]) (n := 1) (Nat.le_of_ble_eq_true rfl)
  rw [lg_entry_eq]
  generalize (lg_sl ([.ref (ad 154)]) ++ List.replicate (1 - (lg_sl ([.ref (ad 154)])).length) Slot.unset).toArray = ls at hl ⊢
  have hl : lv_has ls 1 [(0, .ref (ad 154))] := hl
  have hf := (fX4_isFull.eq_1 ..).symm.trans hf
  refine lv_aload_n hx hb dX4_isFull_0 rfl (lv_at hl 0 rfl) ?_
  refine s_getI (k := 1) E hU hP sc6 (slt hsh hn 154 rfl) rfl inlX4 (Nat.le_of_ble_eq_true rfl) rfl rfl wkX4_19 dX4_isFull_1 ?_
  refine lv_sipush (v := 150) hx hb dX4_isFull_4 rfl ?_
  refine lv_icmp_lt (tgt := 14) hx hb dX4_isFull_7 rfl (fun hc => ?_) (fun hc => ?_)
  · have hf := ite_t hf hc
    refine lv_iconst (v := 0) hx hb dX4_isFull_14 rfl ?_
    exact s_zretR E hrt hlocks rfl hf dX4_isFull_15
  · have hf := ite_f hf hc
    refine lv_iconst (v := 1) hx hb dX4_isFull_10 rfl ?_
    refine lv_goto (tgt := 15) hx hb dX4_isFull_11 rfl ?_
    exact s_zretR E hrt hlocks rfl hf dX4_isFull_15
abbrev rmX4_append : Room := { frames := 1, cells := 0, slots := 0, locals := 20 }
set_option maxRecDepth 100000 in
set_option maxHeartbeats 4000000 in
theorem mX4_append (l : Launch) (D : va_G) (G : Nat → ClassId) (ad : Nat → Nat) (r : sR) (v : sV) (n : Nat) (x : Int64 × UInt64) (hsh : sSh r) (hn : 172 ≤ n) (x1 : Int32) : sMI l yX4_append (.code yX4_append cX4_append 2 (some .int) :: wsL_law) rmX4_append D G ad r v n x [.ref (ad 154), .int x1] (fX4_append x1 v) := by
  intro sz res hf
  refine Met.ofW (cc := cX4_append) (maxL := 2) (ret := (some .int)) (by decide) rfl ?_
  intro p e s m args below meth c s₁ B hml hv
  obtain ⟨rfl, rfl, hU, hP, hD⟩ := hv
  have hx := B.exec
  have hb := B.bytes
  have hrt := B.returns
  have hts : ∀ w ∈ wsL_law, w.before _ s = true := fun w hw => atoms_spec (ws := .code yX4_append cX4_append 2 (some .int) :: wsL_law) B.pre w (List.mem_cons_of_mem _ hw)
  have hlocks := B.notSynchronized
  have E : CallFix p m c cX4_append 2 s ([.ref (ad 154), .int x1] : List Value).toArray wsL_law RX4 := ⟨hx, hb, hml, findClass_of_methodNamed B.named, hts⟩
  have hB : sB D G (sA ad r n s.heap.size) s.heap ad r v n x s.heap [] := ⟨hP, sD_self hD, va_S.rf⟩
  have hl := lv_entry ([.ref (ad 154), .int x1]) (n := 2) (Nat.le_of_ble_eq_true rfl)
  rw [lg_entry_eq]
  generalize (lg_sl ([.ref (ad 154), .int x1]) ++ List.replicate (2 - (lg_sl ([.ref (ad 154), .int x1])).length) Slot.unset).toArray = ls at hl ⊢
  have hl : lv_has ls 2 [(0, .ref (ad 154)), (1, .int x1)] := hl
  have hf := (fX4_append.eq_1 ..).symm.trans hf
  refine lv_aload_n hx hb dX4_append_0 rfl (lv_at hl 0 rfl) ?_
  refine sc_R hf (rV_R (As := []) (rest := []) E hU hB.1 sc6 (slt hsh hn 154 rfl) rfl (mX4_isFull l D G ad r _ n x hsh hn) (cwGV 0 okX4_isFull wmX4_23 hts rfl rfl ⟨Nat.le_of_ble_eq_true rfl, Nat.le_of_ble_eq_true rfl⟩) rfl hl.1 (Nat.le_of_ble_eq_true rfl) dX4_append_1 ⟨Nat.zero_le _, Nat.zero_le _⟩ rfl) (fun y1 hf => ?_)
  refine lv_if_ne (tgt := 27) hx hb dX4_append_4 rfl (fun hc => ?_) (fun hc => ?_)
  · have hf := ite_f hf hc
    refine lv_aload_n hx hb dX4_append_27 rfl (lv_at hl 0 rfl) ?_
    refine s_getI (k := 1) E hU hB.1 sc6 (slt hsh hn 154 rfl) rfl inlX4 (Nat.le_of_ble_eq_true rfl) rfl rfl wkX4_19 dX4_append_28 ?_
    exact s_iretW E hrt hlocks hB hf dX4_append_31
  · have hf := ite_t hf hc
    refine lv_aload_n hx hb dX4_append_7 rfl (lv_at hl 0 rfl) ?_
    refine s_getR (k := 0) (t := 155) E hU hB.1 sc6 (slt hsh hn 154 rfl) rfl inlX4 (Nat.le_of_ble_eq_true rfl) rfl rfl wkX4_9 (hsh.1 154 0 155 rfl) dX4_append_8 ?_
    refine lv_aload_n hx hb dX4_append_11 rfl (lv_at hl 0 rfl) ?_
    refine s_getI (k := 1) E hU hB.1 sc6 (slt hsh hn 154 rfl) rfl inlX4 (Nat.le_of_ble_eq_true rfl) rfl rfl wkX4_19 dX4_append_12 ?_
    refine lv_iload_n hx hb dX4_append_15 rfl (lv_at hl 1 rfl) ?_
    refine s_cast E hU hB (slt hsh hn 155 rfl) rfl dX4_append_16 hf (fun v2 hf H locs hB => ?_)
    refine lv_aload_n hx hb dX4_append_17 rfl (lv_at hl 0 rfl) ?_
    refine lv_dup hx hb dX4_append_18 rfl ?_
    refine s_getI (k := 1) E hU hB.1 sc6 (slt hsh hn 154 rfl) rfl inlX4 (Nat.le_of_ble_eq_true rfl) rfl rfl wkX4_19 dX4_append_19 ?_
    refine lv_iconst (v := 1) hx hb dX4_append_22 rfl ?_
    refine lv_iadd hx hb dX4_append_23 ?_
    refine s_putI (k := 1) (ty1 := .int) E hU hB sc6 (slt hsh hn 154 rfl) rfl inlX4 (Nat.le_of_ble_eq_true rfl) rfl rfl wkX4_19 rfl rfl rfl rfl dX4_append_24 hf (fun v3 hf H locs hB => ?_)
    refine lv_aload_n hx hb dX4_append_27 rfl (lv_at hl 0 rfl) ?_
    refine s_getI (k := 1) E hU hB.1 sc6 (slt hsh hn 154 rfl) rfl inlX4 (Nat.le_of_ble_eq_true rfl) rfl rfl wkX4_19 dX4_append_28 ?_
    exact s_iretW E hrt hlocks hB hf dX4_append_31
abbrev rmX4_empty : Room := { frames := 0, cells := 0, slots := 0, locals := 0 }
set_option maxRecDepth 100000 in
set_option maxHeartbeats 4000000 in
theorem mX4_empty (l : Launch) (D : va_G) (G : Nat → ClassId) (ad : Nat → Nat) (r : sR) (v : sV) (n : Nat) (x : Int64 × UInt64) (hsh : sSh r) (hn : 172 ≤ n) : sMV l yX4_empty (.code yX4_empty cX4_empty 1 none :: wsL_law) rmX4_empty D G ad r v n x [.ref (ad 154)] (fX4_empty v) := by
  intro sz res hf
  refine Met.ofW (cc := cX4_empty) (maxL := 1) (ret := none) (by decide) rfl ?_
  intro p e s m args below meth c s₁ B hml hv
  obtain ⟨rfl, rfl, hU, hP, hD⟩ := hv
  have hx := B.exec
  have hb := B.bytes
  have hrt := B.returns
  have hts : ∀ w ∈ wsL_law, w.before _ s = true := fun w hw => atoms_spec (ws := .code yX4_empty cX4_empty 1 none :: wsL_law) B.pre w (List.mem_cons_of_mem _ hw)
  have hlocks := B.notSynchronized
  have E : CallFix p m c cX4_empty 1 s ([.ref (ad 154)] : List Value).toArray wsL_law RX4 := ⟨hx, hb, hml, findClass_of_methodNamed B.named, hts⟩
  have hB : sB D G (sA ad r n s.heap.size) s.heap ad r v n x s.heap [] := ⟨hP, sD_self hD, va_S.rf⟩
  have hl := lv_entry ([.ref (ad 154)]) (n := 1) (Nat.le_of_ble_eq_true rfl)
  rw [lg_entry_eq]
  generalize (lg_sl ([.ref (ad 154)]) ++ List.replicate (1 - (lg_sl ([.ref (ad 154)])).length) Slot.unset).toArray = ls at hl ⊢
  have hl : lv_has ls 1 [(0, .ref (ad 154))] := hl
  have hf := (fX4_empty.eq_1 ..).symm.trans hf
  refine lv_aload_n hx hb dX4_empty_0 rfl (lv_at hl 0 rfl) ?_
  refine lv_iconst (v := 0) hx hb dX4_empty_1 rfl ?_
  refine s_putI (k := 1) (ty1 := .int) E hU hB sc6 (slt hsh hn 154 rfl) rfl inlX4 (Nat.le_of_ble_eq_true rfl) rfl rfl wkX4_19 rfl rfl rfl rfl dX4_empty_2 hf (fun v1 hf H locs hB => ?_)
  exact s_vretW E hrt hlocks hB hf dX4_empty_5
abbrev rmX4_costOf : Room := { frames := 0, cells := 0, slots := 0, locals := 0 }
set_option maxRecDepth 100000 in
set_option maxHeartbeats 4000000 in
theorem mX4_costOf (l : Launch) (x0 : Int32) : sMS l yX4_costOf (.code yX4_costOf cX4_costOf 1 (some .int) :: wsL_law) rmX4_costOf [.int x0] (fX4_costOf x0) := by
  intro res hf
  refine Met.ofW (cc := cX4_costOf) (maxL := 1) (ret := (some .int)) (by decide) rfl ?_
  intro p e s m args below meth c s₁ B hml hv
  obtain ⟨rfl, -⟩ := hv
  have hx := B.exec
  have hb := B.bytes
  have hrt := B.returns
  have hts : ∀ w ∈ wsL_law, w.before _ s = true := fun w hw => atoms_spec (ws := .code yX4_costOf cX4_costOf 1 (some .int) :: wsL_law) B.pre w (List.mem_cons_of_mem _ hw)
  have hlocks := B.notSynchronized
  have E : CallFix p m c cX4_costOf 1 s ([.int x0] : List Value).toArray wsL_law RX4 := ⟨hx, hb, hml, findClass_of_methodNamed B.named, hts⟩
  have hl := lv_entry ([.int x0]) (n := 1) (Nat.le_of_ble_eq_true rfl)
  rw [lg_entry_eq]
  generalize (lg_sl ([.int x0]) ++ List.replicate (1 - (lg_sl ([.int x0])).length) Slot.unset).toArray = ls at hl ⊢
  have hl : lv_has ls 1 [(0, .int x0)] := hl
  have hf := (fX4_costOf.eq_1 ..).symm.trans hf
  refine lv_iload_n hx hb dX4_costOf_0 rfl (lv_at hl 0 rfl) ?_
  refine lv_bipush (v := 35) hx hb dX4_costOf_1 rfl ?_
  refine lv_icmp_ne (tgt := 8) hx hb dX4_costOf_3 rfl (fun hc => ?_) (fun hc => ?_)
  · have hf := ite_f hf hc
    refine lv_iload_n hx hb dX4_costOf_8 rfl (lv_at hl 0 rfl) ?_
    refine lv_bipush (v := 49) hx hb dX4_costOf_9 rfl ?_
    refine lv_icmp_lt (tgt := 27) hx hb dX4_costOf_11 rfl (fun hc => ?_) (fun hc => ?_)
    · have hf := ite_t hf hc
      refine lv_iconst (v := (-1)) hx hb dX4_costOf_27 rfl ?_
      exact s_iretR E hrt hlocks hf dX4_costOf_28
    · have hf := ite_f hf hc
      refine lv_iload_n hx hb dX4_costOf_14 rfl (lv_at hl 0 rfl) ?_
      refine lv_bipush (v := 57) hx hb dX4_costOf_15 rfl ?_
      refine lv_icmp_gt (tgt := 27) hx hb dX4_costOf_17 rfl (fun hc => ?_) (fun hc => ?_)
      · have hf := ite_t hf hc
        refine lv_iconst (v := (-1)) hx hb dX4_costOf_27 rfl ?_
        exact s_iretR E hrt hlocks hf dX4_costOf_28
      · have hf := ite_f hf hc
        refine lv_iload_n hx hb dX4_costOf_20 rfl (lv_at hl 0 rfl) ?_
        refine lv_bipush (v := 48) hx hb dX4_costOf_21 rfl ?_
        refine lv_isub hx hb dX4_costOf_23 ?_
        refine lv_goto (tgt := 28) hx hb dX4_costOf_24 rfl ?_
        exact s_iretR E hrt hlocks hf dX4_costOf_28
  · have hf := ite_t hf hc
    refine lv_iconst (v := 0) hx hb dX4_costOf_6 rfl ?_
    exact s_iretR E hrt hlocks hf dX4_costOf_7
abbrev rmX4_parse : Room := { frames := 1, cells := 0, slots := 0, locals := 23 }
set_option maxRecDepth 100000 in
set_option maxHeartbeats 4000000 in
theorem lX4_parse_14 {K : Nat} {res : (Int32 × sV)} (E : CallFix p m c cX4_parse 6 s args wsL_law RX4) (hlocks : meth.locks = false) (hrt : meth.sig.returnType = (some .int)) (hU : sU D G s) (hsh : sSh r) (hn : 172 ≤ n) :
    ∀ (k : Nat) (x1 : Int32) (x2 : Int32) (x3 : Int32) (v : sV) (H : Heap) (locs : List Loc) (ls : Array Slot), fx4 (gX4_parse_14 K) k x1 x2 x3 v = some res → sB D G (sA ad r n s.heap.size) s.heap ad r v n x H locs → lv_has ls 6 [(0, .ref (ad 154)), (1, .int x1), (2, .int x2), (3, .int x3)] → W p l e rmX4_parse s m args below meth c H locs 0 0 (MQ below (sQI D G ad r n x s.heap.size res) args s 0 0 (sA ad r n s.heap.size)) (F0 m 14 ls []) := by
  have hx := E.1
  have hb := E.2.1
  have hts := E.2.2.2.2
  intro k
  induction k with
  | zero =>
    intro x1 x2 x3 v H locs ls hf hB hl
    exact fx4_z hf
  | succ k ih =>
    intro x1 x2 x3 v H locs ls hf hB hl
    have hf := (gX4_parse_14.eq_1 ..).symm.trans hf
    refine lv_iload_n hx hb dX4_parse_14 rfl (lv_at hl 3 rfl) ?_
    refine lv_aload_n hx hb dX4_parse_15 rfl (lv_at hl 0 rfl) ?_
    refine s_getI (k := 1) E hU hB.1 sc6 (slt hsh hn 154 rfl) rfl inlX4 (Nat.le_of_ble_eq_true rfl) rfl rfl wkX4_19 dX4_parse_16 ?_
    refine lv_icmp_ge (tgt := 96) hx hb dX4_parse_19 rfl (fun hc => ?_) (fun hc => ?_)
    · have hf := ite_t hf hc
      refine lv_iconst (v := (-1)) hx hb dX4_parse_96 rfl ?_
      exact s_iretW E hrt hlocks hB hf dX4_parse_97
    · have hf := ite_f hf hc
      refine lv_aload_n hx hb dX4_parse_22 rfl (lv_at hl 0 rfl) ?_
      refine s_getR (k := 0) (t := 155) E hU hB.1 sc6 (slt hsh hn 154 rfl) rfl inlX4 (Nat.le_of_ble_eq_true rfl) rfl rfl wkX4_9 (hsh.1 154 0 155 rfl) dX4_parse_23 ?_
      refine lv_iload_n hx hb dX4_parse_26 rfl (lv_at hl 3 rfl) ?_
      refine s_cald E hU hB.1 (slt hsh hn 155 rfl) rfl dX4_parse_27 hf (fun y2 hf => ?_)
      refine lv_bipush (v := 47) hx hb dX4_parse_28 rfl ?_
      refine lv_icmp_ne (tgt := 46) hx hb dX4_parse_30 rfl (fun hc => ?_) (fun hc => ?_)
      · have hf := ite_f hf hc
        refine lv_iload_n hx hb dX4_parse_46 rfl (lv_at hl 1 rfl) ?_
        refine lv_iload_n hx hb dX4_parse_47 rfl (lv_at hl 2 rfl) ?_
        refine sc_R hf (rSN_S (As := [.int x1, .int x2]) (rest := []) E (mX6_cellAt l x1 x2) (cwGN 2 okX6_cellAt (hU.2.1 _ (List.mem_of_getElem? (i := 9) rfl)) hts rfl rfl ⟨Nat.le_of_ble_eq_true rfl, Nat.le_of_ble_eq_true rfl⟩) rfl hl.1 (Nat.le_of_ble_eq_true rfl) dX4_parse_48 ⟨Nat.zero_le _, Nat.zero_le _⟩ rfl) (fun y3 hf => ?_)
        refine lv_istore (lv' := [(4, .int y3), (0, .ref (ad 154)), (1, .int x1), (2, .int x2), (3, .int x3)]) hx hb dX4_parse_51 hl (Nat.le_of_ble_eq_true rfl) rfl (fun ls hl => ?_)
        refine lv_aload_n hx hb dX4_parse_53 rfl (lv_at hl 1 rfl) ?_
        refine s_getR (k := 0) (t := 155) E hU hB.1 sc6 (slt hsh hn 154 rfl) rfl inlX4 (Nat.le_of_ble_eq_true rfl) rfl rfl wkX4_9 (hsh.1 154 0 155 rfl) dX4_parse_54 ?_
        refine lv_iload_n hx hb dX4_parse_57 rfl (lv_at hl 4 rfl) ?_
        refine s_cald E hU hB.1 (slt hsh hn 155 rfl) rfl dX4_parse_58 hf (fun y4 hf => ?_)
        refine sc_R hf (rS_S (As := [.int y4]) (rest := []) E (mX4_costOf l y4) (cwGS 1 okX4_costOf wmX4_37 hts rfl rfl ⟨Nat.le_of_ble_eq_true rfl, Nat.le_of_ble_eq_true rfl⟩) rfl hl.1 (Nat.le_of_ble_eq_true rfl) dX4_parse_59 ⟨Nat.zero_le _, Nat.zero_le _⟩ rfl) (fun y5 hf => ?_)
        refine lv_istore (lv' := [(5, .int y5), (4, .int y3), (0, .ref (ad 154)), (1, .int x1), (2, .int x2), (3, .int x3)]) hx hb dX4_parse_62 hl (Nat.le_of_ble_eq_true rfl) rfl (fun ls hl => ?_)
        refine lv_iload hx hb dX4_parse_64 (lv_at hl 1 rfl) ?_
        refine lv_iconst (v := (-1)) hx hb dX4_parse_66 rfl ?_
        refine lv_icmp_eq (tgt := 76) hx hb dX4_parse_67 rfl (fun hc => ?_) (fun hc => ?_)
        · have hf := ite_t hf hc
          refine lv_iload_n hx hb dX4_parse_76 rfl (lv_at hl 5 rfl) ?_
          exact s_iretW E hrt hlocks hB hf dX4_parse_77
        · have hf := ite_f hf hc
          refine lv_iload hx hb dX4_parse_70 (lv_at hl 0 rfl) ?_
          refine lv_iconst (v := (-1)) hx hb dX4_parse_72 rfl ?_
          refine lv_icmp_ne (tgt := 78) hx hb dX4_parse_73 rfl (fun hc => ?_) (fun hc => ?_)
          · have hf := ite_f hf hc
            refine lv_aload_n hx hb dX4_parse_78 rfl (lv_at hl 2 rfl) ?_
            refine s_getR (k := 2) (t := 156) E hU hB.1 sc6 (slt hsh hn 154 rfl) rfl inlX4 (Nat.le_of_ble_eq_true rfl) rfl rfl wkX4_15 (hsh.1 154 2 156 rfl) dX4_parse_79 ?_
            refine lv_iload hx hb dX4_parse_82 (lv_at hl 1 rfl) ?_
            refine lv_iload hx hb dX4_parse_84 (lv_at hl 0 rfl) ?_
            refine s_iast E hU hB (slt hsh hn 156 rfl) rfl dX4_parse_86 hf (fun v6 hf H locs hB => ?_)
            obtain ⟨z7, ez9, hf⟩ := nm_x hf
            refine lv_iinc (v := z7) (lv' := [(1, .int z7), (5, .int y5), (4, .int y3), (0, .ref (ad 154)), (2, .int x2), (3, .int x3)]) hx hb dX4_parse_87 hl (k := 3) rfl (by rw [ez9]; rfl) (Nat.le_of_ble_eq_true rfl) rfl (fun ls hl => ?_)
            obtain ⟨z8, ez9, hf⟩ := nm_x hf
            refine lv_iinc (v := z8) (lv' := [(3, .int z8), (1, .int z7), (5, .int y5), (4, .int y3), (0, .ref (ad 154)), (2, .int x2)]) hx hb dX4_parse_90 hl (k := 5) rfl (by rw [ez9]; rfl) (Nat.le_of_ble_eq_true rfl) rfl (fun ls hl => ?_)
            refine lv_goto (tgt := 14) hx hb dX4_parse_93 rfl ?_
            exact ih _ _ _ _ _ _ _ hf hB (lv_sub hl [4, 1, 5, 0] rfl)
          · have hf := ite_t hf hc
            refine lv_iload_n hx hb dX4_parse_76 rfl (lv_at hl 5 rfl) ?_
            exact s_iretW E hrt hlocks hB hf dX4_parse_77
      · have hf := ite_t hf hc
        refine lv_iconst (v := 0) hx hb dX4_parse_33 rfl ?_
        refine lv_istore_n (lv' := [(1, .int 0), (0, .ref (ad 154)), (2, .int x2), (3, .int x3)]) hx hb dX4_parse_34 rfl hl (Nat.le_of_ble_eq_true rfl) rfl (fun ls hl => ?_)
        obtain ⟨z9, ez9, hf⟩ := nm_x hf
        refine lv_iinc (v := z9) (lv' := [(2, .int z9), (1, .int 0), (0, .ref (ad 154)), (3, .int x3)]) hx hb dX4_parse_35 hl (k := 2) rfl (by rw [ez9]; rfl) (Nat.le_of_ble_eq_true rfl) rfl (fun ls hl => ?_)
        refine lv_iload_n hx hb dX4_parse_38 rfl (lv_at hl 0 rfl) ?_
        refine lv_bipush (v := 10) hx hb dX4_parse_39 rfl ?_
        refine lv_icmp_lt (tgt := 90) hx hb dX4_parse_41 rfl (fun hc => ?_) (fun hc => ?_)
        · have hf := ite_t hf hc
          obtain ⟨z10, ez9, hf⟩ := nm_x hf
          refine lv_iinc (v := z10) (lv' := [(3, .int z10), (2, .int z9), (1, .int 0), (0, .ref (ad 154))]) hx hb dX4_parse_90 hl (k := 3) rfl (by rw [ez9]; rfl) (Nat.le_of_ble_eq_true rfl) rfl (fun ls hl => ?_)
          refine lv_goto (tgt := 14) hx hb dX4_parse_93 rfl ?_
          exact ih _ _ _ _ _ _ _ hf hB (lv_sub hl [3, 2, 1, 0] rfl)
        · have hf := ite_f hf hc
          refine lv_iload_n hx hb dX4_parse_44 rfl (lv_at hl 3 rfl) ?_
          exact s_iretW E hrt hlocks hB hf dX4_parse_45
set_option maxRecDepth 100000 in
set_option maxHeartbeats 4000000 in
theorem mX4_parse (l : Launch) (K : Nat) (D : va_G) (G : Nat → ClassId) (ad : Nat → Nat) (r : sR) (v : sV) (n : Nat) (x : Int64 × UInt64) (hsh : sSh r) (hn : 172 ≤ n) : sMI l yX4_parse (.code yX4_parse cX4_parse 6 (some .int) :: wsL_law) rmX4_parse D G ad r v n x [.ref (ad 154)] (fX4_parse K v) := by
  intro sz res hf
  refine Met.ofW (cc := cX4_parse) (maxL := 6) (ret := (some .int)) (by decide) rfl ?_
  intro p e s m args below meth c s₁ B hml hv
  obtain ⟨rfl, rfl, hU, hP, hD⟩ := hv
  have hx := B.exec
  have hb := B.bytes
  have hrt := B.returns
  have hts : ∀ w ∈ wsL_law, w.before _ s = true := fun w hw => atoms_spec (ws := .code yX4_parse cX4_parse 6 (some .int) :: wsL_law) B.pre w (List.mem_cons_of_mem _ hw)
  have hlocks := B.notSynchronized
  have E : CallFix p m c cX4_parse 6 s ([.ref (ad 154)] : List Value).toArray wsL_law RX4 := ⟨hx, hb, hml, findClass_of_methodNamed B.named, hts⟩
  have hB : sB D G (sA ad r n s.heap.size) s.heap ad r v n x s.heap [] := ⟨hP, sD_self hD, va_S.rf⟩
  have hl := lv_entry ([.ref (ad 154)]) (n := 6) (Nat.le_of_ble_eq_true rfl)
  rw [lg_entry_eq]
  generalize (lg_sl ([.ref (ad 154)]) ++ List.replicate (6 - (lg_sl ([.ref (ad 154)])).length) Slot.unset).toArray = ls at hl ⊢
  have hl : lv_has ls 6 [(0, .ref (ad 154))] := hl
  have hf := (fX4_parse.eq_1 ..).symm.trans hf
  refine lv_aload_n hx hb dX4_parse_0 rfl (lv_at hl 0 rfl) ?_
  refine s_getR (k := 2) (t := 156) E hU hB.1 sc6 (slt hsh hn 154 rfl) rfl inlX4 (Nat.le_of_ble_eq_true rfl) rfl rfl wkX4_15 (hsh.1 154 2 156 rfl) dX4_parse_1 ?_
  refine lv_iconst (v := (-1)) hx hb dX4_parse_4 rfl ?_
  refine sc_V hB (fun q h => Or.inr h) hf (fun q9 h9 => rS_W (As := [.ref (ad 156), .int (-1)]) (rest := []) E hU hB ((mJ7_fill_53178 l K D G ad r _ n x 156 140 rfl (slt hsh hn 156 rfl) (-1)) _ _ h9) (cwGS 2 okJ7_fill_53178 wmX4_27 hts rfl rfl ⟨Nat.le_of_ble_eq_true rfl, Nat.le_of_ble_eq_true rfl⟩) rfl hl.1 (Nat.le_of_ble_eq_true rfl) dX4_parse_5 ⟨Nat.zero_le _, Nat.zero_le _⟩ rfl) (fun v1 hf H locs hB => ?_)
  refine lv_iconst (v := 0) hx hb dX4_parse_8 rfl ?_
  refine lv_istore_n (lv' := [(1, .int 0), (0, .ref (ad 154))]) hx hb dX4_parse_9 rfl hl (Nat.le_of_ble_eq_true rfl) rfl (fun ls hl => ?_)
  refine lv_iconst (v := 0) hx hb dX4_parse_10 rfl ?_
  refine lv_istore_n (lv' := [(2, .int 0), (1, .int 0), (0, .ref (ad 154))]) hx hb dX4_parse_11 rfl hl (Nat.le_of_ble_eq_true rfl) rfl (fun ls hl => ?_)
  refine lv_iconst (v := 0) hx hb dX4_parse_12 rfl ?_
  refine lv_istore_n (lv' := [(3, .int 0), (2, .int 0), (1, .int 0), (0, .ref (ad 154))]) hx hb dX4_parse_13 rfl hl (Nat.le_of_ble_eq_true rfl) rfl (fun ls hl => ?_)
  exact lX4_parse_14 E hlocks hrt hU hsh hn _ _ _ _ _ _ _ _ hf hB (lv_sub hl [3, 2, 1, 0] rfl)
abbrev rmX5_place : Room := { frames := 0, cells := 0, slots := 0, locals := 0 }
set_option maxRecDepth 100000 in
set_option maxHeartbeats 4000000 in
theorem mX5_place (l : Launch) (D : va_G) (G : Nat → ClassId) (ad : Nat → Nat) (r : sR) (v : sV) (n : Nat) (x : Int64 × UInt64) (hsh : sSh r) (hn : 172 ≤ n) (bq : Nat) (hbq : okS r bq) (x1 : Int32) (x2 : Int32) (x3 : Int32) (x4 : Int32) : sMV l yX5_place (.code yX5_place cX5_place 5 none :: wsL_law) rmX5_place D G ad r v n x [.ref (ad bq), .int x1, .int x2, .int x3, .int x4] (fX5_place bq x1 x2 x3 x4 v) := by
  intro sz res hf
  refine Met.ofW (cc := cX5_place) (maxL := 5) (ret := none) (by decide) rfl ?_
  intro p e s m args below meth c s₁ B hml hv
  obtain ⟨rfl, rfl, hU, hP, hD⟩ := hv
  have hx := B.exec
  have hb := B.bytes
  have hrt := B.returns
  have hts : ∀ w ∈ wsL_law, w.before _ s = true := fun w hw => atoms_spec (ws := .code yX5_place cX5_place 5 none :: wsL_law) B.pre w (List.mem_cons_of_mem _ hw)
  have hlocks := B.notSynchronized
  have E : CallFix p m c cX5_place 5 s ([.ref (ad bq), .int x1, .int x2, .int x3, .int x4] : List Value).toArray wsL_law RX5 := ⟨hx, hb, hml, findClass_of_methodNamed B.named, hts⟩
  have hB : sB D G (sA ad r n s.heap.size) s.heap ad r v n x s.heap [] := ⟨hP, sD_self hD, va_S.rf⟩
  have hl := lv_entry ([.ref (ad bq), .int x1, .int x2, .int x3, .int x4]) (n := 5) (Nat.le_of_ble_eq_true rfl)
  rw [lg_entry_eq]
  generalize (lg_sl ([.ref (ad bq), .int x1, .int x2, .int x3, .int x4]) ++ List.replicate (5 - (lg_sl ([.ref (ad bq), .int x1, .int x2, .int x3, .int x4])).length) Slot.unset).toArray = ls at hl ⊢
  have hl : lv_has ls 5 [(0, .ref (ad bq)), (1, .int x1), (2, .int x2), (3, .int x3), (4, .int x4)] := hl
  have hf := (fX5_place.eq_1 ..).symm.trans hf
  refine lv_aload_n hx hb dX5_place_0 rfl (lv_at hl 0 rfl) ?_
  refine s_getR (k := 3) (t := (bq + 4)) E hU hB.1 sc7 (okS_lt0 hsh hbq hn) (okS_k hsh hbq) inlX5 (Nat.le_of_ble_eq_true rfl) rfl rfl wkX5_21 (okS_r hsh hbq 3 rfl) dX5_place_1 ?_
  refine lv_iload_n hx hb dX5_place_4 rfl (lv_at hl 1 rfl) ?_
  refine lv_iload_n hx hb dX5_place_5 rfl (lv_at hl 2 rfl) ?_
  refine s_iast E hU hB (okS_lt hsh hbq hn 4 rfl) (okS_kj hsh hbq 4 _ rfl) dX5_place_6 hf (fun v1 hf H locs hB => ?_)
  refine lv_aload_n hx hb dX5_place_7 rfl (lv_at hl 0 rfl) ?_
  refine s_getR (k := 4) (t := (bq + 5)) E hU hB.1 sc7 (okS_lt0 hsh hbq hn) (okS_k hsh hbq) inlX5 (Nat.le_of_ble_eq_true rfl) rfl rfl wkX5_24 (okS_r hsh hbq 4 rfl) dX5_place_8 ?_
  refine lv_iload_n hx hb dX5_place_11 rfl (lv_at hl 1 rfl) ?_
  refine lv_iload_n hx hb dX5_place_12 rfl (lv_at hl 3 rfl) ?_
  refine s_iast E hU hB (okS_lt hsh hbq hn 5 rfl) (okS_kj hsh hbq 5 _ rfl) dX5_place_13 hf (fun v2 hf H locs hB => ?_)
  refine lv_aload_n hx hb dX5_place_14 rfl (lv_at hl 0 rfl) ?_
  refine s_getR (k := 5) (t := (bq + 6)) E hU hB.1 sc7 (okS_lt0 hsh hbq hn) (okS_k hsh hbq) inlX5 (Nat.le_of_ble_eq_true rfl) rfl rfl wkX5_27 (okS_r hsh hbq 5 rfl) dX5_place_15 ?_
  refine lv_iload_n hx hb dX5_place_18 rfl (lv_at hl 1 rfl) ?_
  refine lv_iload hx hb dX5_place_19 (lv_at hl 4 rfl) ?_
  refine s_iast E hU hB (okS_lt hsh hbq hn 6 rfl) (okS_kj hsh hbq 6 _ rfl) dX5_place_21 hf (fun v3 hf H locs hB => ?_)
  refine lv_aload_n hx hb dX5_place_22 rfl (lv_at hl 0 rfl) ?_
  refine s_getR (k := 6) (t := (bq + 7)) E hU hB.1 sc7 (okS_lt0 hsh hbq hn) (okS_k hsh hbq) inlX5 (Nat.le_of_ble_eq_true rfl) rfl rfl wkX5_30 (okS_r hsh hbq 6 rfl) dX5_place_23 ?_
  refine lv_iload_n hx hb dX5_place_26 rfl (lv_at hl 1 rfl) ?_
  refine lv_iconst (v := 0) hx hb dX5_place_27 rfl ?_
  refine s_iast E hU hB (okS_lt hsh hbq hn 7 rfl) (okS_kj hsh hbq 7 _ rfl) dX5_place_28 hf (fun v4 hf H locs hB => ?_)
  refine lv_aload_n hx hb dX5_place_29 rfl (lv_at hl 0 rfl) ?_
  refine s_getR (k := 7) (t := (bq + 8)) E hU hB.1 sc7 (okS_lt0 hsh hbq hn) (okS_k hsh hbq) inlX5 (Nat.le_of_ble_eq_true rfl) rfl rfl wkX5_33 (okS_r hsh hbq 7 rfl) dX5_place_30 ?_
  refine lv_iload_n hx hb dX5_place_33 rfl (lv_at hl 1 rfl) ?_
  refine lv_iconst (v := 0) hx hb dX5_place_34 rfl ?_
  refine s_iast E hU hB (okS_lt hsh hbq hn 8 rfl) (okS_kj hsh hbq 8 _ rfl) dX5_place_35 hf (fun v5 hf H locs hB => ?_)
  refine lv_aload_n hx hb dX5_place_36 rfl (lv_at hl 0 rfl) ?_
  refine s_getR (k := 8) (t := (bq + 9)) E hU hB.1 sc7 (okS_lt0 hsh hbq hn) (okS_k hsh hbq) inlX5 (Nat.le_of_ble_eq_true rfl) rfl rfl wkX5_36 (okS_r hsh hbq 8 rfl) dX5_place_37 ?_
  refine lv_iload_n hx hb dX5_place_40 rfl (lv_at hl 1 rfl) ?_
  refine lv_iconst (v := (-1)) hx hb dX5_place_41 rfl ?_
  refine s_iast E hU hB (okS_lt hsh hbq hn 9 rfl) (okS_kj hsh hbq 9 _ rfl) dX5_place_42 hf (fun v6 hf H locs hB => ?_)
  exact s_vretW E hrt hlocks hB hf dX5_place_43
abbrev rmX5_erase : Room := { frames := 0, cells := 0, slots := 0, locals := 0 }
set_option maxRecDepth 100000 in
set_option maxHeartbeats 4000000 in
theorem lX5_erase_23 {K : Nat} {bq : Nat} {x1 : Int32} {res : sV} (E : CallFix p m c cX5_erase 3 s args wsL_law RX5) (hlocks : meth.locks = false) (hrt : meth.sig.returnType = none) (hU : sU D G s) (hsh : sSh r) (hn : 172 ≤ n) (hbq : okS r bq) :
    ∀ (k : Nat) (x2 : Int32) (v : sV) (H : Heap) (locs : List Loc) (ls : Array Slot), fx2 (gX5_erase_23 K bq x1) k x2 v = some res → sB D G (sA ad r n s.heap.size) s.heap ad r v n x H locs → lv_has ls 3 [(0, .ref (ad bq)), (1, .int x1), (2, .int x2)] → W p l e rmX5_erase s m args below meth c H locs 0 0 (MQ below (sQV D G ad r n x s.heap.size res) args s 0 0 (sA ad r n s.heap.size)) (F0 m 23 ls []) := by
  have hx := E.1
  have hb := E.2.1
  have hts := E.2.2.2.2
  intro k
  induction k with
  | zero =>
    intro x2 v H locs ls hf hB hl
    exact fx2_z hf
  | succ k ih =>
    intro x2 v H locs ls hf hB hl
    have hf := (gX5_erase_23.eq_1 ..).symm.trans hf
    refine lv_iload_n hx hb dX5_erase_23 rfl (lv_at hl 2 rfl) ?_
    refine lv_bipush (v := 16) hx hb dX5_erase_24 rfl ?_
    refine lv_icmp_ge (tgt := 52) hx hb dX5_erase_26 rfl (fun hc => ?_) (fun hc => ?_)
    · have hf := ite_t hf hc
      exact s_vretW E hrt hlocks hB hf dX5_erase_52
    · have hf := ite_f hf hc
      refine lv_aload_n hx hb dX5_erase_29 rfl (lv_at hl 0 rfl) ?_
      refine s_getR (k := 8) (t := (bq + 9)) E hU hB.1 sc7 (okS_lt0 hsh hbq hn) (okS_k hsh hbq) inlX5 (Nat.le_of_ble_eq_true rfl) rfl rfl wkX5_36 (okS_r hsh hbq 8 rfl) dX5_erase_30 ?_
      refine lv_iload_n hx hb dX5_erase_33 rfl (lv_at hl 2 rfl) ?_
      refine s_iald E hU hB.1 (okS_lt hsh hbq hn 9 rfl) (okS_kj hsh hbq 9 _ rfl) dX5_erase_34 hf (fun y4 hf => ?_)
      refine lv_iload_n hx hb dX5_erase_35 rfl (lv_at hl 1 rfl) ?_
      refine lv_icmp_ne (tgt := 46) hx hb dX5_erase_36 rfl (fun hc => ?_) (fun hc => ?_)
      · have hf := ite_f hf hc
        obtain ⟨z5, ez9, hf⟩ := nm_x hf
        refine lv_iinc (v := z5) (lv' := [(2, .int z5), (0, .ref (ad bq)), (1, .int x1)]) hx hb dX5_erase_46 hl (k := 2) rfl (by rw [ez9]; rfl) (Nat.le_of_ble_eq_true rfl) rfl (fun ls hl => ?_)
        refine lv_goto (tgt := 23) hx hb dX5_erase_49 rfl ?_
        exact ih _ _ _ _ _ hf hB (lv_sub hl [1, 2, 0] rfl)
      · have hf := ite_t hf hc
        refine lv_aload_n hx hb dX5_erase_39 rfl (lv_at hl 0 rfl) ?_
        refine s_getR (k := 8) (t := (bq + 9)) E hU hB.1 sc7 (okS_lt0 hsh hbq hn) (okS_k hsh hbq) inlX5 (Nat.le_of_ble_eq_true rfl) rfl rfl wkX5_36 (okS_r hsh hbq 8 rfl) dX5_erase_40 ?_
        refine lv_iload_n hx hb dX5_erase_43 rfl (lv_at hl 2 rfl) ?_
        refine lv_iconst (v := (-1)) hx hb dX5_erase_44 rfl ?_
        refine s_iast E hU hB (okS_lt hsh hbq hn 9 rfl) (okS_kj hsh hbq 9 _ rfl) dX5_erase_45 hf (fun v6 hf H locs hB => ?_)
        obtain ⟨z7, ez9, hf⟩ := nm_x hf
        refine lv_iinc (v := z7) (lv' := [(2, .int z7), (0, .ref (ad bq)), (1, .int x1)]) hx hb dX5_erase_46 hl (k := 2) rfl (by rw [ez9]; rfl) (Nat.le_of_ble_eq_true rfl) rfl (fun ls hl => ?_)
        refine lv_goto (tgt := 23) hx hb dX5_erase_49 rfl ?_
        exact ih _ _ _ _ _ hf hB (lv_sub hl [1, 2, 0] rfl)
set_option maxRecDepth 100000 in
set_option maxHeartbeats 4000000 in
theorem mX5_erase (l : Launch) (K : Nat) (D : va_G) (G : Nat → ClassId) (ad : Nat → Nat) (r : sR) (v : sV) (n : Nat) (x : Int64 × UInt64) (hsh : sSh r) (hn : 172 ≤ n) (bq : Nat) (hbq : okS r bq) (x1 : Int32) : sMV l yX5_erase (.code yX5_erase cX5_erase 3 none :: wsL_law) rmX5_erase D G ad r v n x [.ref (ad bq), .int x1] (fX5_erase K bq x1 v) := by
  intro sz res hf
  refine Met.ofW (cc := cX5_erase) (maxL := 3) (ret := none) (by decide) rfl ?_
  intro p e s m args below meth c s₁ B hml hv
  obtain ⟨rfl, rfl, hU, hP, hD⟩ := hv
  have hx := B.exec
  have hb := B.bytes
  have hrt := B.returns
  have hts : ∀ w ∈ wsL_law, w.before _ s = true := fun w hw => atoms_spec (ws := .code yX5_erase cX5_erase 3 none :: wsL_law) B.pre w (List.mem_cons_of_mem _ hw)
  have hlocks := B.notSynchronized
  have E : CallFix p m c cX5_erase 3 s ([.ref (ad bq), .int x1] : List Value).toArray wsL_law RX5 := ⟨hx, hb, hml, findClass_of_methodNamed B.named, hts⟩
  have hB : sB D G (sA ad r n s.heap.size) s.heap ad r v n x s.heap [] := ⟨hP, sD_self hD, va_S.rf⟩
  have hl := lv_entry ([.ref (ad bq), .int x1]) (n := 3) (Nat.le_of_ble_eq_true rfl)
  rw [lg_entry_eq]
  generalize (lg_sl ([.ref (ad bq), .int x1]) ++ List.replicate (3 - (lg_sl ([.ref (ad bq), .int x1])).length) Slot.unset).toArray = ls at hl ⊢
  have hl : lv_has ls 3 [(0, .ref (ad bq)), (1, .int x1)] := hl
  have hf := (fX5_erase.eq_1 ..).symm.trans hf
  refine lv_aload_n hx hb dX5_erase_0 rfl (lv_at hl 0 rfl) ?_
  refine s_getR (k := 3) (t := (bq + 4)) E hU hB.1 sc7 (okS_lt0 hsh hbq hn) (okS_k hsh hbq) inlX5 (Nat.le_of_ble_eq_true rfl) rfl rfl wkX5_21 (okS_r hsh hbq 3 rfl) dX5_erase_1 ?_
  refine lv_iload_n hx hb dX5_erase_4 rfl (lv_at hl 1 rfl) ?_
  refine lv_iconst (v := (-1)) hx hb dX5_erase_5 rfl ?_
  refine s_iast E hU hB (okS_lt hsh hbq hn 4 rfl) (okS_kj hsh hbq 4 _ rfl) dX5_erase_6 hf (fun v1 hf H locs hB => ?_)
  refine lv_aload_n hx hb dX5_erase_7 rfl (lv_at hl 0 rfl) ?_
  refine s_getR (k := 4) (t := (bq + 5)) E hU hB.1 sc7 (okS_lt0 hsh hbq hn) (okS_k hsh hbq) inlX5 (Nat.le_of_ble_eq_true rfl) rfl rfl wkX5_24 (okS_r hsh hbq 4 rfl) dX5_erase_8 ?_
  refine lv_iload_n hx hb dX5_erase_11 rfl (lv_at hl 1 rfl) ?_
  refine lv_iconst (v := (-1)) hx hb dX5_erase_12 rfl ?_
  refine s_iast E hU hB (okS_lt hsh hbq hn 5 rfl) (okS_kj hsh hbq 5 _ rfl) dX5_erase_13 hf (fun v2 hf H locs hB => ?_)
  refine lv_aload_n hx hb dX5_erase_14 rfl (lv_at hl 0 rfl) ?_
  refine s_getR (k := 8) (t := (bq + 9)) E hU hB.1 sc7 (okS_lt0 hsh hbq hn) (okS_k hsh hbq) inlX5 (Nat.le_of_ble_eq_true rfl) rfl rfl wkX5_36 (okS_r hsh hbq 8 rfl) dX5_erase_15 ?_
  refine lv_iload_n hx hb dX5_erase_18 rfl (lv_at hl 1 rfl) ?_
  refine lv_iconst (v := (-1)) hx hb dX5_erase_19 rfl ?_
  refine s_iast E hU hB (okS_lt hsh hbq hn 9 rfl) (okS_kj hsh hbq 9 _ rfl) dX5_erase_20 hf (fun v3 hf H locs hB => ?_)
  refine lv_iconst (v := 0) hx hb dX5_erase_21 rfl ?_
  refine lv_istore_n (lv' := [(2, .int 0), (0, .ref (ad bq)), (1, .int x1)]) hx hb dX5_erase_22 rfl hl (Nat.le_of_ble_eq_true rfl) rfl (fun ls hl => ?_)
  exact lX5_erase_23 E hlocks hrt hU hsh hn hbq _ _ _ _ _ _ hf hB (lv_sub hl [1, 2, 0] rfl)
end
