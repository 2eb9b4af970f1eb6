section
variable {p : Program} {l : Launch} {e : Env} {s : State} {m : MethodId} {args : Array Value} {below : List Frame} {meth : Method} {c : Code}
variable {D : va_G} {G : Nat → ClassId} {ad : Nat → Nat} {r : sR} {n : Nat} {x : Int64 × UInt64}
abbrev rmX0_exists : Room := { frames := 0, cells := 0, slots := 0, locals := 0 }
set_option maxRecDepth 100000 in
set_option maxHeartbeats 4000000 in
theorem mX0_exists (l : Launch) (D : va_G) (G : Nat → ClassId) (ad : Nat → Nat) (r : sR) (v : sV) (n : Nat) (x : Int64 × UInt64) (hsh : sSh r) (hn : 172 ≤ n) (cq : Nat) (bq : Nat) (hcb : okC cq bq) (x1 : Int32) : sMR l yX0_exists (.code yX0_exists cX0_exists 2 (some .boolean) :: wsL_law) rmX0_exists D G ad r v n x [.ref (ad cq), .int x1] (fX0_exists cq bq x1 v) := by
  intro res hf
  refine Met.ofW (cc := cX0_exists) (maxL := 2) (ret := (some .boolean)) (by decide) rfl ?_
  intro p e s m args below meth c s₁ B hml hv
  obtain ⟨rfl, hU, hP⟩ := hv
  have hx := B.exec
  have hb := B.bytes
  have hrt := B.returns
  have hts : ∀ w ∈ wsL_law, w.before _ s = true := fun w hw => atoms_spec (ws := .code yX0_exists cX0_exists 2 (some .boolean) :: wsL_law) B.pre w (List.mem_cons_of_mem _ hw)
  have hlocks := B.notSynchronized
  have E : CallFix p m c cX0_exists 2 s ([.ref (ad cq), .int x1] : List Value).toArray wsL_law RX0 := ⟨hx, hb, hml, findClass_of_methodNamed B.named, hts⟩
  have hl := lv_entry ([.ref (ad cq), .int x1]) (n := 2) (Nat.le_of_ble_eq_true rfl)
  rw [lg_entry_eq]
  generalize (lg_sl ([.ref (ad cq), .int x1]) ++ List.replicate (2 - (lg_sl ([.ref (ad cq), .int x1])).length) Slot.unset).toArray = ls at hl ⊢
  have hl : lv_has ls 2 [(0, .ref (ad cq)), (1, .int x1)] := hl
  have hf := (fX0_exists.eq_1 ..).symm.trans hf
  refine lv_iload_n hx hb dX0_exists_0 rfl (lv_at hl 1 rfl) ?_
  refine lv_if_lt (tgt := 27) hx hb dX0_exists_1 rfl (fun hc => ?_) (fun hc => ?_)
  · have hf := ite_t hf hc
    refine lv_iconst (v := 0) hx hb dX0_exists_27 rfl ?_
    exact s_zretR E hrt hlocks rfl hf dX0_exists_28
  · have hf := ite_f hf hc
    refine lv_iload_n hx hb dX0_exists_4 rfl (lv_at hl 1 rfl) ?_
    refine lv_bipush (v := 16) hx hb dX0_exists_5 rfl ?_
    refine lv_icmp_ge (tgt := 27) hx hb dX0_exists_7 rfl (fun hc => ?_) (fun hc => ?_)
    · have hf := ite_t hf hc
      refine lv_iconst (v := 0) hx hb dX0_exists_27 rfl ?_
      exact s_zretR E hrt hlocks rfl hf dX0_exists_28
    · have hf := ite_f hf hc
      refine lv_aload_n hx hb dX0_exists_10 rfl (lv_at hl 0 rfl) ?_
      refine s_getR (k := 0) (t := bq) E hU hP sc2 (okC_lt hsh hcb hn) (okC_k hcb) inlX0 (Nat.le_of_ble_eq_true rfl) rfl rfl wkX0_9 (hsh.1 _ _ _ (okC_r0 hcb)) dX0_exists_11 ?_
      refine s_getR (k := 3) (t := (bq + 4)) E hU hP sc7 (okS_lt0 hsh (okC_S hcb) hn) (okS_k hsh (okC_S hcb)) inlX5 (Nat.le_of_ble_eq_true rfl) rfl rfl wkX0_19 (okS_r hsh (okC_S hcb) 3 rfl) dX0_exists_14 ?_
      refine lv_iload_n hx hb dX0_exists_17 rfl (lv_at hl 1 rfl) ?_
      refine s_iald E hU hP (okS_lt hsh (okC_S hcb) hn 4 rfl) (okS_kj hsh (okC_S hcb) 4 _ rfl) dX0_exists_18 hf (fun y1 hf => ?_)
      refine lv_iconst (v := (-1)) hx hb dX0_exists_19 rfl ?_
      refine lv_icmp_eq (tgt := 27) hx hb dX0_exists_20 rfl (fun hc => ?_) (fun hc => ?_)
      · have hf := ite_t hf hc
        refine lv_iconst (v := 0) hx hb dX0_exists_27 rfl ?_
        exact s_zretR E hrt hlocks rfl hf dX0_exists_28
      · have hf := ite_f hf hc
        refine lv_iconst (v := 1) hx hb dX0_exists_23 rfl ?_
        refine lv_goto (tgt := 28) hx hb dX0_exists_24 rfl ?_
        exact s_zretR E hrt hlocks rfl hf dX0_exists_28
abbrev rmX0_stuckOnes : Room := { frames := 1, cells := 0, slots := 0, locals := 21 }
set_option maxRecDepth 100000 in
set_option maxHeartbeats 4000000 in
theorem lX0_stuckOnes_4 {K : Nat} {cq : Nat} {bq : Nat} {res : Int32} (E : CallFix p m c cX0_stuckOnes 3 s args wsL_law RX0) (hlocks : meth.locks = false) (hrt : meth.sig.returnType = (some .int)) (hU : sU D G s) (hsh : sSh r) (hn : 172 ≤ n) (hcb : okC cq bq) {v : sV} (hP : va_P D vwCl (sWl G ad r v n x) s.heap) :
    ∀ (k : Nat) (x1 : Int32) (x2 : Int32) (ls : Array Slot), fx2 (gX0_stuckOnes_4 K cq bq v) k x1 x2 = some res → lv_has ls 3 [(0, .ref (ad cq)), (1, .int x1), (2, .int x2)] → W p l e rmX0_stuckOnes s m args below meth c s.heap [] 0 0 (MQ below (vp_Si (fun q => q = res)) args s 0 0 (fun _ => False)) (F0 m 4 ls []) := by
  have hx := E.1
  have hb := E.2.1
  have hts := E.2.2.2.2
  intro k
  induction k with
  | zero =>
    intro x1 x2 ls hf hl
    exact fx2_z hf
  | succ k ih =>
    intro x1 x2 ls hf hl
    have hf := (gX0_stuckOnes_4.eq_1 ..).symm.trans hf
    refine lv_iload_n hx hb dX0_stuckOnes_4 rfl (lv_at hl 2 rfl) ?_
    refine lv_bipush (v := 16) hx hb dX0_stuckOnes_5 rfl ?_
    refine lv_icmp_ge (tgt := 43) hx hb dX0_stuckOnes_7 rfl (fun hc => ?_) (fun hc => ?_)
    · have hf := ite_t hf hc
      refine lv_iload_n hx hb dX0_stuckOnes_43 rfl (lv_at hl 1 rfl) ?_
      exact s_iretR E hrt hlocks hf dX0_stuckOnes_44
    · have hf := ite_f hf hc
      refine lv_aload_n hx hb dX0_stuckOnes_10 rfl (lv_at hl 0 rfl) ?_
      refine lv_iload_n hx hb dX0_stuckOnes_11 rfl (lv_at hl 2 rfl) ?_
      refine sc_R hf (rV_R (As := [.int x2]) (rest := []) E hU hP sc2 (okC_lt hsh hcb hn) (okC_k hcb) (mX0_exists l D G ad r _ n x hsh hn cq bq hcb x2) (cwGV 1 okX0_exists wmX0_25 hts rfl rfl ⟨Nat.le_of_ble_eq_true rfl, Nat.le_of_ble_eq_true rfl⟩) rfl hl.1 (Nat.le_of_ble_eq_true rfl) dX0_stuckOnes_12 ⟨Nat.zero_le _, Nat.zero_le _⟩ rfl) (fun y1 hf => ?_)
      refine lv_if_eq (tgt := 37) hx hb dX0_stuckOnes_15 rfl (fun hc => ?_) (fun hc => ?_)
      · have hf := ite_t hf hc
        obtain ⟨z2, ez9, hf⟩ := nm_x hf
        refine lv_iinc (v := z2) (lv' := [(2, .int z2), (0, .ref (ad cq)), (1, .int x1)]) hx hb dX0_stuckOnes_37 hl (k := 2) rfl (by rw [ez9]; rfl) (Nat.le_of_ble_eq_true rfl) rfl (fun ls hl => ?_)
        refine lv_goto (tgt := 4) hx hb dX0_stuckOnes_40 rfl ?_
        exact ih _ _ _ hf (lv_sub hl [1, 2, 0] rfl)
      · have hf := ite_f hf hc
        refine lv_aload_n hx hb dX0_stuckOnes_18 rfl (lv_at hl 0 rfl) ?_
        refine s_getR (k := 0) (t := bq) E hU hP sc2 (okC_lt hsh hcb hn) (okC_k hcb) inlX0 (Nat.le_of_ble_eq_true rfl) rfl rfl wkX0_9 (hsh.1 _ _ _ (okC_r0 hcb)) dX0_stuckOnes_19 ?_
        refine s_getR (k := 7) (t := (bq + 8)) E hU hP sc7 (okS_lt0 hsh (okC_S hcb) hn) (okS_k hsh (okC_S hcb)) inlX5 (Nat.le_of_ble_eq_true rfl) rfl rfl wkX0_93 (okS_r hsh (okC_S hcb) 7 rfl) dX0_stuckOnes_22 ?_
        refine lv_iload_n hx hb dX0_stuckOnes_25 rfl (lv_at hl 2 rfl) ?_
        refine s_iald E hU hP (okS_lt hsh (okC_S hcb) hn 8 rfl) (okS_kj hsh (okC_S hcb) 8 _ rfl) dX0_stuckOnes_26 hf (fun y3 hf => ?_)
        refine lv_iconst (v := 2) hx hb dX0_stuckOnes_27 rfl ?_
        refine lv_icmp_lt (tgt := 37) hx hb dX0_stuckOnes_28 rfl (fun hc => ?_) (fun hc => ?_)
        · have hf := ite_t hf hc
          obtain ⟨z4, ez9, hf⟩ := nm_x hf
          refine lv_iinc (v := z4) (lv' := [(2, .int z4), (0, .ref (ad cq)), (1, .int x1)]) hx hb dX0_stuckOnes_37 hl (k := 2) rfl (by rw [ez9]; rfl) (Nat.le_of_ble_eq_true rfl) rfl (fun ls hl => ?_)
          refine lv_goto (tgt := 4) hx hb dX0_stuckOnes_40 rfl ?_
          exact ih _ _ _ hf (lv_sub hl [1, 2, 0] rfl)
        · have hf := ite_f hf hc
          refine lv_iload_n hx hb dX0_stuckOnes_31 rfl (lv_at hl 1 rfl) ?_
          refine lv_iconst (v := 1) hx hb dX0_stuckOnes_32 rfl ?_
          refine lv_iload_n hx hb dX0_stuckOnes_33 rfl (lv_at hl 2 rfl) ?_
          refine lv_ishl hx hb dX0_stuckOnes_34 ?_
          refine lv_ior hx hb dX0_stuckOnes_35 ?_
          refine s_nm hf (fun z5 hf => ?_)
          refine lv_istore_n (lv' := [(1, .int z5), (0, .ref (ad cq)), (2, .int x2)]) hx hb dX0_stuckOnes_36 rfl hl (Nat.le_of_ble_eq_true rfl) rfl (fun ls hl => ?_)
          obtain ⟨z6, ez9, hf⟩ := nm_x hf
          refine lv_iinc (v := z6) (lv' := [(2, .int z6), (1, .int z5), (0, .ref (ad cq))]) hx hb dX0_stuckOnes_37 hl (k := 2) rfl (by rw [ez9]; rfl) (Nat.le_of_ble_eq_true rfl) rfl (fun ls hl => ?_)
          refine lv_goto (tgt := 4) hx hb dX0_stuckOnes_40 rfl ?_
          exact ih _ _ _ hf (lv_sub hl [2, 1, 0] rfl)
set_option maxRecDepth 100000 in
set_option maxHeartbeats 4000000 in
theorem mX0_stuckOnes (l : Launch) (K : Nat) (D : va_G) (G : Nat → ClassId) (ad : Nat → Nat) (r : sR) (v : sV) (n : Nat) (x : Int64 × UInt64) (hsh : sSh r) (hn : 172 ≤ n) (cq : Nat) (bq : Nat) (hcb : okC cq bq) : sMR l yX0_stuckOnes (.code yX0_stuckOnes cX0_stuckOnes 3 (some .int) :: wsL_law) rmX0_stuckOnes D G ad r v n x [.ref (ad cq)] (fX0_stuckOnes K cq bq v) := by
  intro res hf
  refine Met.ofW (cc := cX0_stuckOnes) (maxL := 3) (ret := (some .int)) (by decide) rfl ?_
  intro p e s m args below meth c s₁ B hml hv
  obtain ⟨rfl, hU, hP⟩ := hv
  have hx := B.exec
  have hb := B.bytes
  have hrt := B.returns
  have hts : ∀ w ∈ wsL_law, w.before _ s = true := fun w hw => atoms_spec (ws := .code yX0_stuckOnes cX0_stuckOnes 3 (some .int) :: wsL_law) B.pre w (List.mem_cons_of_mem _ hw)
  have hlocks := B.notSynchronized
  have E : CallFix p m c cX0_stuckOnes 3 s ([.ref (ad cq)] : List Value).toArray wsL_law RX0 := ⟨hx, hb, hml, findClass_of_methodNamed B.named, hts⟩
  have hl := lv_entry ([.ref (ad cq)]) (n := 3) (Nat.le_of_ble_eq_true rfl)
  rw [lg_entry_eq]
  generalize (lg_sl ([.ref (ad cq)]) ++ List.replicate (3 - (lg_sl ([.ref (ad cq)])).length) Slot.unset).toArray = ls at hl ⊢
  have hl : lv_has ls 3 [(0, .ref (ad cq))] := hl
  have hf := (fX0_stuckOnes.eq_1 ..).symm.trans hf
  refine lv_iconst (v := 0) hx hb dX0_stuckOnes_0 rfl ?_
  refine lv_istore_n (lv' := [(1, .int 0), (0, .ref (ad cq))]) hx hb dX0_stuckOnes_1 rfl hl (Nat.le_of_ble_eq_true rfl) rfl (fun ls hl => ?_)
  refine lv_iconst (v := 0) hx hb dX0_stuckOnes_2 rfl ?_
  refine lv_istore_n (lv' := [(2, .int 0), (1, .int 0), (0, .ref (ad cq))]) hx hb dX0_stuckOnes_3 rfl hl (Nat.le_of_ble_eq_true rfl) rfl (fun ls hl => ?_)
  exact lX0_stuckOnes_4 E hlocks hrt hU hsh hn hcb hP _ _ _ _ hf (lv_sub hl [2, 1, 0] rfl)
abbrev rmX6_isIn : Room := { frames := 0, cells := 0, slots := 0, locals := 0 }
set_option maxRecDepth 100000 in
set_option maxHeartbeats 4000000 in
theorem mX6_isIn (l : Launch) (x0 : Int32) (x1 : Int32) : sMS l yX6_isIn (.code yX6_isIn cX6_isIn 2 (some .boolean) :: wsL_law) rmX6_isIn [.int x0, .int x1] (fX6_isIn x0 x1) := by
  intro res hf
  refine Met.ofW (cc := cX6_isIn) (maxL := 2) (ret := (some .boolean)) (by decide) rfl ?_
  intro p e s m args below meth c s₁ B hml hv
  obtain ⟨rfl, -⟩ := hv
  have hx := B.exec
  have hb := B.bytes
  have hrt := B.returns
  have hts : ∀ w ∈ wsL_law, w.before _ s = true := fun w hw => atoms_spec (ws := .code yX6_isIn cX6_isIn 2 (some .boolean) :: wsL_law) B.pre w (List.mem_cons_of_mem _ hw)
  have hlocks := B.notSynchronized
  have E : CallFix p m c cX6_isIn 2 s ([.int x0, .int x1] : List Value).toArray wsL_law RX6 := ⟨hx, hb, hml, findClass_of_methodNamed B.named, hts⟩
  have hl := lv_entry ([.int x0, .int x1]) (n := 2) (Nat.le_of_ble_eq_true rfl)
  rw [lg_entry_eq]
  generalize (lg_sl ([.int x0, .int x1]) ++ List.replicate (2 - (lg_sl ([.int x0, .int x1])).length) Slot.unset).toArray = ls at hl ⊢
  have hl : lv_has ls 2 [(0, .int x0), (1, .int x1)] := hl
  have hf := (fX6_isIn.eq_1 ..).symm.trans hf
  refine lv_iload_n hx hb dX6_isIn_0 rfl (lv_at hl 0 rfl) ?_
  refine lv_iconst (v := 1) hx hb dX6_isIn_1 rfl ?_
  refine lv_iload_n hx hb dX6_isIn_2 rfl (lv_at hl 1 rfl) ?_
  refine lv_ishl hx hb dX6_isIn_3 ?_
  refine lv_iand hx hb dX6_isIn_4 ?_
  refine lv_if_eq (tgt := 12) hx hb dX6_isIn_5 rfl (fun hc => ?_) (fun hc => ?_)
  · have hf := ite_t hf hc
    refine lv_iconst (v := 0) hx hb dX6_isIn_12 rfl ?_
    exact s_zretR E hrt hlocks rfl hf dX6_isIn_13
  · have hf := ite_f hf hc
    refine lv_iconst (v := 1) hx hb dX6_isIn_8 rfl ?_
    refine lv_goto (tgt := 13) hx hb dX6_isIn_9 rfl ?_
    exact s_zretR E hrt hlocks rfl hf dX6_isIn_13
abbrev rmX6_neighborOf : Room := { frames := 0, cells := 0, slots := 0, locals := 0 }
set_option maxRecDepth 100000 in
set_option maxHeartbeats 4000000 in
theorem mX6_neighborOf (l : Launch) (x0 : Int32) (x1 : Int32) : sMS l yX6_neighborOf (.code yX6_neighborOf cX6_neighborOf 2 (some .int) :: wsL_law) rmX6_neighborOf [.int x0, .int x1] (fX6_neighborOf x0 x1) := by
  intro res hf
  refine Met.ofW (cc := cX6_neighborOf) (maxL := 2) (ret := (some .int)) (by decide) rfl ?_
  intro p e s m args below meth c s₁ B hml hv
  obtain ⟨rfl, -⟩ := hv
  have hx := B.exec
  have hb := B.bytes
  have hrt := B.returns
  have hts : ∀ w ∈ wsL_law, w.before _ s = true := fun w hw => atoms_spec (ws := .code yX6_neighborOf cX6_neighborOf 2 (some .int) :: wsL_law) B.pre w (List.mem_cons_of_mem _ hw)
  have hlocks := B.notSynchronized
  have E : CallFix p m c cX6_neighborOf 2 s ([.int x0, .int x1] : List Value).toArray wsL_law RX6 := ⟨hx, hb, hml, findClass_of_methodNamed B.named, hts⟩
  have hl := lv_entry ([.int x0, .int x1]) (n := 2) (Nat.le_of_ble_eq_true rfl)
  rw [lg_entry_eq]
  generalize (lg_sl ([.int x0, .int x1]) ++ List.replicate (2 - (lg_sl ([.int x0, .int x1])).length) Slot.unset).toArray = ls at hl ⊢
  have hl : lv_has ls 2 [(0, .int x0), (1, .int x1)] := hl
  have hf := (fX6_neighborOf.eq_1 ..).symm.trans hf
  refine lv_iload_n hx hb dX6_neighborOf_0 rfl (lv_at hl 0 rfl) ?_
  refine lv_if_lt (tgt := 11) hx hb dX6_neighborOf_1 rfl (fun hc => ?_) (fun hc => ?_)
  · have hf := ite_t hf hc
    refine lv_iconst (v := (-1)) hx hb dX6_neighborOf_11 rfl ?_
    exact s_iretR E hrt hlocks hf dX6_neighborOf_12
  · have hf := ite_f hf hc
    refine lv_iload_n hx hb dX6_neighborOf_4 rfl (lv_at hl 0 rfl) ?_
    refine lv_sipush (v := 140) hx hb dX6_neighborOf_5 rfl ?_
    refine lv_icmp_lt (tgt := 13) hx hb dX6_neighborOf_8 rfl (fun hc => ?_) (fun hc => ?_)
    · have hf := ite_t hf hc
      refine lv_iload_n hx hb dX6_neighborOf_13 rfl (lv_at hl 1 rfl) ?_
      by_cases hc0 : x1 = 0
      · have hf := ite_t hf hc0
        refine s_tsw (k := 0) (tgt := 44) hx hb dX6_neighborOf_14 hc0 (by decide) (by decide) rfl rfl ?_
        refine lv_iload_n hx hb dX6_neighborOf_44 rfl (lv_at hl 0 rfl) ?_
        refine lv_bipush (v := 14) hx hb dX6_neighborOf_45 rfl ?_
        refine lv_icmp_lt (tgt := 57) hx hb dX6_neighborOf_47 rfl (fun hc => ?_) (fun hc => ?_)
        · have hf := ite_t hf hc
          refine lv_iconst (v := (-1)) hx hb dX6_neighborOf_57 rfl ?_
          exact s_iretR E hrt hlocks hf dX6_neighborOf_58
        · have hf := ite_f hf hc
          refine lv_iload_n hx hb dX6_neighborOf_50 rfl (lv_at hl 0 rfl) ?_
          refine lv_bipush (v := 14) hx hb dX6_neighborOf_51 rfl ?_
          refine lv_isub hx hb dX6_neighborOf_53 ?_
          refine lv_goto (tgt := 58) hx hb dX6_neighborOf_54 rfl ?_
          exact s_iretR E hrt hlocks hf dX6_neighborOf_58
      have hf := ite_f hf hc0
      by_cases hc1 : x1 = 1
      · have hf := ite_t hf hc1
        refine s_tsw (k := 1) (tgt := 59) hx hb dX6_neighborOf_14 hc1 (by decide) (by decide) rfl rfl ?_
        refine lv_iload_n hx hb dX6_neighborOf_59 rfl (lv_at hl 0 rfl) ?_
        refine lv_bipush (v := 14) hx hb dX6_neighborOf_60 rfl ?_
        refine lv_irem hx hb dX6_neighborOf_62 (by decide) ?_
        refine lv_bipush (v := 13) hx hb dX6_neighborOf_63 rfl ?_
        refine lv_icmp_ge (tgt := 74) hx hb dX6_neighborOf_65 rfl (fun hc => ?_) (fun hc => ?_)
        · have hf := ite_t hf hc
          refine lv_iconst (v := (-1)) hx hb dX6_neighborOf_74 rfl ?_
          exact s_iretR E hrt hlocks hf dX6_neighborOf_75
        · have hf := ite_f hf hc
          refine lv_iload_n hx hb dX6_neighborOf_68 rfl (lv_at hl 0 rfl) ?_
          refine lv_iconst (v := 1) hx hb dX6_neighborOf_69 rfl ?_
          refine lv_iadd hx hb dX6_neighborOf_70 ?_
          refine lv_goto (tgt := 75) hx hb dX6_neighborOf_71 rfl ?_
          exact s_iretR E hrt hlocks hf dX6_neighborOf_75
      have hf := ite_f hf hc1
      by_cases hc2 : x1 = 2
      · have hf := ite_t hf hc2
        refine s_tsw (k := 2) (tgt := 76) hx hb dX6_neighborOf_14 hc2 (by decide) (by decide) rfl rfl ?_
        refine lv_iload_n hx hb dX6_neighborOf_76 rfl (lv_at hl 0 rfl) ?_
        refine lv_bipush (v := 126) hx hb dX6_neighborOf_77 rfl ?_
        refine lv_icmp_ge (tgt := 89) hx hb dX6_neighborOf_79 rfl (fun hc => ?_) (fun hc => ?_)
        · have hf := ite_t hf hc
          refine lv_iconst (v := (-1)) hx hb dX6_neighborOf_89 rfl ?_
          exact s_iretR E hrt hlocks hf dX6_neighborOf_90
        · have hf := ite_f hf hc
          refine lv_iload_n hx hb dX6_neighborOf_82 rfl (lv_at hl 0 rfl) ?_
          refine lv_bipush (v := 14) hx hb dX6_neighborOf_83 rfl ?_
          refine lv_iadd hx hb dX6_neighborOf_85 ?_
          refine lv_goto (tgt := 90) hx hb dX6_neighborOf_86 rfl ?_
          exact s_iretR E hrt hlocks hf dX6_neighborOf_90
      have hf := ite_f hf hc2
      by_cases hc3 : x1 = 3
      · have hf := ite_t hf hc3
        refine s_tsw (k := 3) (tgt := 91) hx hb dX6_neighborOf_14 hc3 (by decide) (by decide) rfl rfl ?_
        refine lv_iload_n hx hb dX6_neighborOf_91 rfl (lv_at hl 0 rfl) ?_
        refine lv_bipush (v := 14) hx hb dX6_neighborOf_92 rfl ?_
        refine lv_irem hx hb dX6_neighborOf_94 (by decide) ?_
        refine lv_if_le (tgt := 104) hx hb dX6_neighborOf_95 rfl (fun hc => ?_) (fun hc => ?_)
        · have hf := ite_t hf hc
          refine lv_iconst (v := (-1)) hx hb dX6_neighborOf_104 rfl ?_
          exact s_iretR E hrt hlocks hf dX6_neighborOf_105
        · have hf := ite_f hf hc
          refine lv_iload_n hx hb dX6_neighborOf_98 rfl (lv_at hl 0 rfl) ?_
          refine lv_iconst (v := 1) hx hb dX6_neighborOf_99 rfl ?_
          refine lv_isub hx hb dX6_neighborOf_100 ?_
          refine lv_goto (tgt := 105) hx hb dX6_neighborOf_101 rfl ?_
          exact s_iretR E hrt hlocks hf dX6_neighborOf_105
      have hf := ite_f hf hc3
      refine lv_tableOut (tgt := 106) hx hb dX6_neighborOf_14 (by have h0 := ni_ hc0 (z := 0) (by decide); have h1 := ni_ hc1 (z := 1) (by decide); have h2 := ni_ hc2 (z := 2) (by decide); have h3 := ni_ hc3 (z := 3) (by decide); omega) rfl ?_
      refine lv_iconst (v := (-1)) hx hb dX6_neighborOf_106 rfl ?_
      exact s_iretR E hrt hlocks hf dX6_neighborOf_107
    · have hf := ite_f hf hc
      refine lv_iconst (v := (-1)) hx hb dX6_neighborOf_11 rfl ?_
      exact s_iretR E hrt hlocks hf dX6_neighborOf_12
abbrev rmX0_agentOn : Room := { frames := 0, cells := 0, slots := 0, locals := 0 }
set_option maxRecDepth 100000 in
set_option maxHeartbeats 4000000 in
theorem lX0_agentOn_2 {K : Nat} {cq : Nat} {bq : Nat} {x1 : Int32} {res : Int32} (E : CallFix p m c cX0_agentOn 3 s args wsL_law RX0) (hlocks : meth.locks = false) (hrt : meth.sig.returnType = (some .int)) (hU : sU D G s) (hsh : sSh r) (hn : 172 ≤ n) (hcb : okC cq bq) {v : sV} (hP : va_P D vwCl (sWl G ad r v n x) s.heap) :
    ∀ (k : Nat) (x2 : Int32) (ls : Array Slot), fx1 (gX0_agentOn_2 K cq bq x1 v) k x2 = some res → lv_has ls 3 [(0, .ref (ad cq)), (1, .int x1), (2, .int x2)] → W p l e rmX0_agentOn s m args below meth c s.heap [] 0 0 (MQ below (vp_Si (fun q => q = res)) args s 0 0 (fun _ => False)) (F0 m 2 ls []) := by
  have hx := E.1
  have hb := E.2.1
  have hts := E.2.2.2.2
  intro k
  induction k with
  | zero =>
    intro x2 ls hf hl
    exact fx1_z hf
  | succ k ih =>
    intro x2 ls hf hl
    have hf := (gX0_agentOn_2.eq_1 ..).symm.trans hf
    refine lv_iload_n hx hb dX0_agentOn_2 rfl (lv_at hl 1 rfl) ?_
    refine lv_iconst (v := (-1)) hx hb dX0_agentOn_3 rfl ?_
    refine lv_icmp_eq (tgt := 34) hx hb dX0_agentOn_4 rfl (fun hc => ?_) (fun hc => ?_)
    · have hf := ite_t hf hc
      refine lv_iconst (v := (-1)) hx hb dX0_agentOn_34 rfl ?_
      exact s_iretR E hrt hlocks hf dX0_agentOn_35
    · have hf := ite_f hf hc
      refine lv_iload_n hx hb dX0_agentOn_7 rfl (lv_at hl 2 rfl) ?_
      refine lv_bipush (v := 16) hx hb dX0_agentOn_8 rfl ?_
      refine lv_icmp_ge (tgt := 34) hx hb dX0_agentOn_10 rfl (fun hc => ?_) (fun hc => ?_)
      · have hf := ite_t hf hc
        refine lv_iconst (v := (-1)) hx hb dX0_agentOn_34 rfl ?_
        exact s_iretR E hrt hlocks hf dX0_agentOn_35
      · have hf := ite_f hf hc
        refine lv_aload_n hx hb dX0_agentOn_13 rfl (lv_at hl 0 rfl) ?_
        refine s_getR (k := 0) (t := bq) E hU hP sc2 (okC_lt hsh hcb hn) (okC_k hcb) inlX0 (Nat.le_of_ble_eq_true rfl) rfl rfl wkX0_9 (hsh.1 _ _ _ (okC_r0 hcb)) dX0_agentOn_14 ?_
        refine s_getR (k := 3) (t := (bq + 4)) E hU hP sc7 (okS_lt0 hsh (okC_S hcb) hn) (okS_k hsh (okC_S hcb)) inlX5 (Nat.le_of_ble_eq_true rfl) rfl rfl wkX0_19 (okS_r hsh (okC_S hcb) 3 rfl) dX0_agentOn_17 ?_
        refine lv_iload_n hx hb dX0_agentOn_20 rfl (lv_at hl 2 rfl) ?_
        refine s_iald E hU hP (okS_lt hsh (okC_S hcb) hn 4 rfl) (okS_kj hsh (okC_S hcb) 4 _ rfl) dX0_agentOn_21 hf (fun y1 hf => ?_)
        refine lv_iload_n hx hb dX0_agentOn_22 rfl (lv_at hl 1 rfl) ?_
        refine lv_icmp_ne (tgt := 28) hx hb dX0_agentOn_23 rfl (fun hc => ?_) (fun hc => ?_)
        · have hf := ite_f hf hc
          obtain ⟨z2, ez9, hf⟩ := nm_x hf
          refine lv_iinc (v := z2) (lv' := [(2, .int z2), (0, .ref (ad cq)), (1, .int x1)]) hx hb dX0_agentOn_28 hl (k := 2) rfl (by rw [ez9]; rfl) (Nat.le_of_ble_eq_true rfl) rfl (fun ls hl => ?_)
          refine lv_goto (tgt := 2) hx hb dX0_agentOn_31 rfl ?_
          exact ih _ _ hf (lv_sub hl [1, 2, 0] rfl)
        · have hf := ite_t hf hc
          refine lv_iload_n hx hb dX0_agentOn_26 rfl (lv_at hl 2 rfl) ?_
          exact s_iretR E hrt hlocks hf dX0_agentOn_27
set_option maxRecDepth 100000 in
set_option maxHeartbeats 4000000 in
theorem mX0_agentOn (l : Launch) (K : Nat) (D : va_G) (G : Nat → ClassId) (ad : Nat → Nat) (r : sR) (v : sV) (n : Nat) (x : Int64 × UInt64) (hsh : sSh r) (hn : 172 ≤ n) (cq : Nat) (bq : Nat) (hcb : okC cq bq) (x1 : Int32) : sMR l yX0_agentOn (.code yX0_agentOn cX0_agentOn 3 (some .int) :: wsL_law) rmX0_agentOn D G ad r v n x [.ref (ad cq), .int x1] (fX0_agentOn K cq bq x1 v) := by
  intro res hf
  refine Met.ofW (cc := cX0_agentOn) (maxL := 3) (ret := (some .int)) (by decide) rfl ?_
  intro p e s m args below meth c s₁ B hml hv
  obtain ⟨rfl, hU, hP⟩ := hv
  have hx := B.exec
  have hb := B.bytes
  have hrt := B.returns
  have hts : ∀ w ∈ wsL_law, w.before _ s = true := fun w hw => atoms_spec (ws := .code yX0_agentOn cX0_agentOn 3 (some .int) :: wsL_law) B.pre w (List.mem_cons_of_mem _ hw)
  have hlocks := B.notSynchronized
  have E : CallFix p m c cX0_agentOn 3 s ([.ref (ad cq), .int x1] : List Value).toArray wsL_law RX0 := ⟨hx, hb, hml, findClass_of_methodNamed B.named, hts⟩
  have hl := lv_entry ([.ref (ad cq), .int x1]) (n := 3) (Nat.le_of_ble_eq_true rfl)
  rw [lg_entry_eq]
  generalize (lg_sl ([.ref (ad cq), .int x1]) ++ List.replicate (3 - (lg_sl ([.ref (ad cq), .int x1])).length) Slot.unset).toArray = ls at hl ⊢
  have hl : lv_has ls 3 [(0, .ref (ad cq)), (1, .int x1)] := hl
  have hf := (fX0_agentOn.eq_1 ..).symm.trans hf
  refine lv_iconst (v := 0) hx hb dX0_agentOn_0 rfl ?_
  refine lv_istore_n (lv' := [(2, .int 0), (0, .ref (ad cq)), (1, .int x1)]) hx hb dX0_agentOn_1 rfl hl (Nat.le_of_ble_eq_true rfl) rfl (fun ls hl => ?_)
  exact lX0_agentOn_2 E hlocks hrt hU hsh hn hcb hP _ _ _ hf (lv_sub hl [1, 2, 0] rfl)
abbrev rmX0_agentsBeside : Room := { frames := 1, cells := 0, slots := 0, locals := 22 }
set_option maxRecDepth 100000 in
set_option maxHeartbeats 4000000 in
theorem lX0_agentsBeside_4 {K : Nat} {cq : Nat} {bq : Nat} {x1 : Int32} {res : Int32} (E : CallFix p m c cX0_agentsBeside 5 s args wsL_law RX0) (hlocks : meth.locks = false) (hrt : meth.sig.returnType = (some .int)) (hU : sU D G s) (hsh : sSh r) (hn : 172 ≤ n) (hcb : okC cq bq) {v : sV} (hP : va_P D vwCl (sWl G ad r v n x) s.heap) :
    ∀ (k : Nat) (x2 : Int32) (x3 : Int32) (ls : Array Slot), fx2 (gX0_agentsBeside_4 K cq bq x1 v) k x2 x3 = some res → lv_has ls 5 [(0, .ref (ad cq)), (1, .int x1), (2, .int x2), (3, .int x3)] → W p l e rmX0_agentsBeside s m args below meth c s.heap [] 0 0 (MQ below (vp_Si (fun q => q = res)) args s 0 0 (fun _ => False)) (F0 m 4 ls []) := by
  have hx := E.1
  have hb := E.2.1
  have hts := E.2.2.2.2
  intro k
  induction k with
  | zero =>
    intro x2 x3 ls hf hl
    exact fx2_z hf
  | succ k ih =>
    intro x2 x3 ls hf hl
    have hf := (gX0_agentsBeside_4.eq_1 ..).symm.trans hf
    refine lv_iload_n hx hb dX0_agentsBeside_4 rfl (lv_at hl 3 rfl) ?_
    refine lv_iconst (v := 4) hx hb dX0_agentsBeside_5 rfl ?_
    refine lv_icmp_ge (tgt := 39) hx hb dX0_agentsBeside_6 rfl (fun hc => ?_) (fun hc => ?_)
    · have hf := ite_t hf hc
      refine lv_iload_n hx hb dX0_agentsBeside_39 rfl (lv_at hl 2 rfl) ?_
      exact s_iretR E hrt hlocks hf dX0_agentsBeside_40
    · have hf := ite_f hf hc
      refine lv_aload_n hx hb dX0_agentsBeside_9 rfl (lv_at hl 0 rfl) ?_
      refine lv_iload_n hx hb dX0_agentsBeside_10 rfl (lv_at hl 1 rfl) ?_
      refine lv_iload_n hx hb dX0_agentsBeside_11 rfl (lv_at hl 3 rfl) ?_
      refine sc_R hf (rSN_S (As := [.int x1, .int x3]) (rest := [.ref (ad cq)]) E (mX6_neighborOf l x1 x3) (cwGN 2 okX6_neighborOf (hU.2.1 _ (List.mem_of_getElem? (i := 3) rfl)) hts rfl rfl ⟨Nat.le_of_ble_eq_true rfl, Nat.le_of_ble_eq_true rfl⟩) rfl hl.1 (Nat.le_of_ble_eq_true rfl) dX0_agentsBeside_12 ⟨Nat.zero_le _, Nat.zero_le _⟩ rfl) (fun y1 hf => ?_)
      refine sc_R hf (rV_R (As := [.int y1]) (rest := []) E hU hP sc2 (okC_lt hsh hcb hn) (okC_k hcb) (mX0_agentOn l K D G ad r _ n x hsh hn cq bq hcb y1) (cwGV 1 okX0_agentOn wmX0_32 hts rfl rfl ⟨Nat.le_of_ble_eq_true rfl, Nat.le_of_ble_eq_true rfl⟩) rfl hl.1 (Nat.le_of_ble_eq_true rfl) dX0_agentsBeside_15 ⟨Nat.zero_le _, Nat.zero_le _⟩ rfl) (fun y2 hf => ?_)
      refine lv_istore (lv' := [(4, .int y2), (0, .ref (ad cq)), (1, .int x1), (2, .int x2), (3, .int x3)]) hx hb dX0_agentsBeside_18 hl (Nat.le_of_ble_eq_true rfl) rfl (fun ls hl => ?_)
      refine lv_iload hx hb dX0_agentsBeside_20 (lv_at hl 0 rfl) ?_
      refine lv_iconst (v := (-1)) hx hb dX0_agentsBeside_22 rfl ?_
      refine lv_icmp_eq (tgt := 33) hx hb dX0_agentsBeside_23 rfl (fun hc => ?_) (fun hc => ?_)
      · have hf := ite_t hf hc
        obtain ⟨z3, ez9, hf⟩ := nm_x hf
        refine lv_iinc (v := z3) (lv' := [(3, .int z3), (4, .int y2), (0, .ref (ad cq)), (1, .int x1), (2, .int x2)]) hx hb dX0_agentsBeside_33 hl (k := 4) rfl (by rw [ez9]; rfl) (Nat.le_of_ble_eq_true rfl) rfl (fun ls hl => ?_)
        refine lv_goto (tgt := 4) hx hb dX0_agentsBeside_36 rfl ?_
        exact ih _ _ _ hf (lv_sub hl [2, 3, 4, 0] rfl)
      · have hf := ite_f hf hc
        refine lv_iload_n hx hb dX0_agentsBeside_26 rfl (lv_at hl 3 rfl) ?_
        refine lv_iconst (v := 1) hx hb dX0_agentsBeside_27 rfl ?_
        refine lv_iload hx hb dX0_agentsBeside_28 (lv_at hl 0 rfl) ?_
        refine lv_ishl hx hb dX0_agentsBeside_30 ?_
        refine lv_ior hx hb dX0_agentsBeside_31 ?_
        refine s_nm hf (fun z4 hf => ?_)
        refine lv_istore_n (lv' := [(2, .int z4), (4, .int y2), (0, .ref (ad cq)), (1, .int x1), (3, .int x3)]) hx hb dX0_agentsBeside_32 rfl hl (Nat.le_of_ble_eq_true rfl) rfl (fun ls hl => ?_)
        obtain ⟨z5, ez9, hf⟩ := nm_x hf
        refine lv_iinc (v := z5) (lv' := [(3, .int z5), (2, .int z4), (4, .int y2), (0, .ref (ad cq)), (1, .int x1)]) hx hb dX0_agentsBeside_33 hl (k := 4) rfl (by rw [ez9]; rfl) (Nat.le_of_ble_eq_true rfl) rfl (fun ls hl => ?_)
        refine lv_goto (tgt := 4) hx hb dX0_agentsBeside_36 rfl ?_
        exact ih _ _ _ hf (lv_sub hl [3, 4, 1, 0] rfl)
set_option maxRecDepth 100000 in
set_option maxHeartbeats 4000000 in
theorem mX0_agentsBeside (l : Launch) (K : Nat) (D : va_G) (G : Nat → ClassId) (ad : Nat → Nat) (r : sR) (v : sV) (n : Nat) (x : Int64 × UInt64) (hsh : sSh r) (hn : 172 ≤ n) (cq : Nat) (bq : Nat) (hcb : okC cq bq) (x1 : Int32) : sMR l yX0_agentsBeside (.code yX0_agentsBeside cX0_agentsBeside 5 (some .int) :: wsL_law) rmX0_agentsBeside D G ad r v n x [.ref (ad cq), .int x1] (fX0_agentsBeside K cq bq x1 v) := by
  intro res hf
  refine Met.ofW (cc := cX0_agentsBeside) (maxL := 5) (ret := (some .int)) (by decide) rfl ?_
  intro p e s m args below meth c s₁ B hml hv
  obtain ⟨rfl, hU, hP⟩ := hv
  have hx := B.exec
  have hb := B.bytes
  have hrt := B.returns
  have hts : ∀ w ∈ wsL_law, w.before _ s = true := fun w hw => atoms_spec (ws := .code yX0_agentsBeside cX0_agentsBeside 5 (some .int) :: wsL_law) B.pre w (List.mem_cons_of_mem _ hw)
  have hlocks := B.notSynchronized
  have E : CallFix p m c cX0_agentsBeside 5 s ([.ref (ad cq), .int x1] : List Value).toArray wsL_law RX0 := ⟨hx, hb, hml, findClass_of_methodNamed B.named, hts⟩
  have hl := lv_entry ([.ref (ad cq), .int x1]) (n := 5) (Nat.le_of_ble_eq_true rfl)
  rw [lg_entry_eq]
  generalize (lg_sl ([.ref (ad cq), .int x1]) ++ List.replicate (5 - (lg_sl ([.ref (ad cq), .int x1])).length) Slot.unset).toArray = ls at hl ⊢
  have hl : lv_has ls 5 [(0, .ref (ad cq)), (1, .int x1)] := hl
  have hf := (fX0_agentsBeside.eq_1 ..).symm.trans hf
  refine lv_iconst (v := 0) hx hb dX0_agentsBeside_0 rfl ?_
  refine lv_istore_n (lv' := [(2, .int 0), (0, .ref (ad cq)), (1, .int x1)]) hx hb dX0_agentsBeside_1 rfl hl (Nat.le_of_ble_eq_true rfl) rfl (fun ls hl => ?_)
  refine lv_iconst (v := 0) hx hb dX0_agentsBeside_2 rfl ?_
  refine lv_istore_n (lv' := [(3, .int 0), (2, .int 0), (0, .ref (ad cq)), (1, .int x1)]) hx hb dX0_agentsBeside_3 rfl hl (Nat.le_of_ble_eq_true rfl) rfl (fun ls hl => ?_)
  exact lX0_agentsBeside_4 E hlocks hrt hU hsh hn hcb hP _ _ _ _ hf (lv_sub hl [2, 3, 1, 0] rfl)
abbrev rmX0_neighborsOf : Room := { frames := 2, cells := 0, slots := 0, locals := 46 }
set_option maxRecDepth 100000 in
set_option maxHeartbeats 4000000 in
theorem lX0_neighborsOf_4 {K : Nat} {cq : Nat} {bq : Nat} {x1 : Int32} {res : Int32} (E : CallFix p m c cX0_neighborsOf 4 s args wsL_law RX0) (hlocks : meth.locks = false) (hrt : meth.sig.returnType = (some .int)) (hU : sU D G s) (hsh : sSh r) (hn : 172 ≤ n) (hcb : okC cq bq) {v : sV} (hP : va_P D vwCl (sWl G ad r v n x) s.heap) :
    ∀ (k : Nat) (x2 : Int32) (x3 : Int32) (ls : Array Slot), fx2 (gX0_neighborsOf_4 K cq bq x1 v) k x2 x3 = some res → lv_has ls 4 [(0, .ref (ad cq)), (1, .int x1), (2, .int x2), (3, .int x3)] → W p l e rmX0_neighborsOf s m args below meth c s.heap [] 0 0 (MQ below (vp_Si (fun q => q = res)) args s 0 0 (fun _ => False)) (F0 m 4 ls []) := by
  have hx := E.1
  have hb := E.2.1
  have hts := E.2.2.2.2
  intro k
  induction k with
  | zero =>
    intro x2 x3 ls hf hl
    exact fx2_z hf
  | succ k ih =>
    intro x2 x3 ls hf hl
    have hf := (gX0_neighborsOf_4.eq_1 ..).symm.trans hf
    refine lv_iload_n hx hb dX0_neighborsOf_4 rfl (lv_at hl 3 rfl) ?_
    refine lv_bipush (v := 16) hx hb dX0_neighborsOf_5 rfl ?_
    refine lv_icmp_ge (tgt := 40) hx hb dX0_neighborsOf_7 rfl (fun hc => ?_) (fun hc => ?_)
    · have hf := ite_t hf hc
      refine lv_iload_n hx hb dX0_neighborsOf_40 rfl (lv_at hl 2 rfl) ?_
      exact s_iretR E hrt hlocks hf dX0_neighborsOf_41
    · have hf := ite_f hf hc
      refine lv_iload_n hx hb dX0_neighborsOf_10 rfl (lv_at hl 1 rfl) ?_
      refine lv_iload_n hx hb dX0_neighborsOf_11 rfl (lv_at hl 3 rfl) ?_
      refine sc_R hf (rSN_S (As := [.int x1, .int x3]) (rest := []) E (mX6_isIn l x1 x3) (cwGN 2 okX6_isIn (hU.2.1 _ (List.mem_of_getElem? (i := 2) rfl)) hts rfl rfl ⟨Nat.le_of_ble_eq_true rfl, Nat.le_of_ble_eq_true rfl⟩) rfl hl.1 (Nat.le_of_ble_eq_true rfl) dX0_neighborsOf_12 ⟨Nat.zero_le _, Nat.zero_le _⟩ rfl) (fun y1 hf => ?_)
      refine lv_if_eq (tgt := 34) hx hb dX0_neighborsOf_15 rfl (fun hc => ?_) (fun hc => ?_)
      · have hf := ite_t hf hc
        obtain ⟨z2, ez9, hf⟩ := nm_x hf
        refine lv_iinc (v := z2) (lv' := [(3, .int z2), (0, .ref (ad cq)), (1, .int x1), (2, .int x2)]) hx hb dX0_neighborsOf_34 hl (k := 3) rfl (by rw [ez9]; rfl) (Nat.le_of_ble_eq_true rfl) rfl (fun ls hl => ?_)
        refine lv_goto (tgt := 4) hx hb dX0_neighborsOf_37 rfl ?_
        exact ih _ _ _ hf (lv_sub hl [1, 2, 3, 0] rfl)
      · have hf := ite_f hf hc
        refine lv_iload_n hx hb dX0_neighborsOf_18 rfl (lv_at hl 2 rfl) ?_
        refine lv_aload_n hx hb dX0_neighborsOf_19 rfl (lv_at hl 0 rfl) ?_
        refine lv_aload_n hx hb dX0_neighborsOf_20 rfl (lv_at hl 0 rfl) ?_
        refine s_getR (k := 0) (t := bq) E hU hP sc2 (okC_lt hsh hcb hn) (okC_k hcb) inlX0 (Nat.le_of_ble_eq_true rfl) rfl rfl wkX0_9 (hsh.1 _ _ _ (okC_r0 hcb)) dX0_neighborsOf_21 ?_
        refine s_getR (k := 3) (t := (bq + 4)) E hU hP sc7 (okS_lt0 hsh (okC_S hcb) hn) (okS_k hsh (okC_S hcb)) inlX5 (Nat.le_of_ble_eq_true rfl) rfl rfl wkX0_19 (okS_r hsh (okC_S hcb) 3 rfl) dX0_neighborsOf_24 ?_
        refine lv_iload_n hx hb dX0_neighborsOf_27 rfl (lv_at hl 3 rfl) ?_
        refine s_iald E hU hP (okS_lt hsh (okC_S hcb) hn 4 rfl) (okS_kj hsh (okC_S hcb) 4 _ rfl) dX0_neighborsOf_28 hf (fun y3 hf => ?_)
        refine sc_R hf (rV_R (As := [.int y3]) (rest := [.int x2]) E hU hP sc2 (okC_lt hsh hcb hn) (okC_k hcb) (mX0_agentsBeside l K D G ad r _ n x hsh hn cq bq hcb y3) (cwGV 1 okX0_agentsBeside wmX0_169 hts rfl rfl ⟨Nat.le_of_ble_eq_true rfl, Nat.le_of_ble_eq_true rfl⟩) rfl hl.1 (Nat.le_of_ble_eq_true rfl) dX0_neighborsOf_29 ⟨Nat.zero_le _, Nat.zero_le _⟩ rfl) (fun y4 hf => ?_)
        refine lv_ior hx hb dX0_neighborsOf_32 ?_
        refine s_nm hf (fun z5 hf => ?_)
        refine lv_istore_n (lv' := [(2, .int z5), (0, .ref (ad cq)), (1, .int x1), (3, .int x3)]) hx hb dX0_neighborsOf_33 rfl hl (Nat.le_of_ble_eq_true rfl) rfl (fun ls hl => ?_)
        obtain ⟨z6, ez9, hf⟩ := nm_x hf
        refine lv_iinc (v := z6) (lv' := [(3, .int z6), (2, .int z5), (0, .ref (ad cq)), (1, .int x1)]) hx hb dX0_neighborsOf_34 hl (k := 3) rfl (by rw [ez9]; rfl) (Nat.le_of_ble_eq_true rfl) rfl (fun ls hl => ?_)
        refine lv_goto (tgt := 4) hx hb dX0_neighborsOf_37 rfl ?_
        exact ih _ _ _ hf (lv_sub hl [2, 3, 1, 0] rfl)
set_option maxRecDepth 100000 in
set_option maxHeartbeats 4000000 in
theorem mX0_neighborsOf (l : Launch) (K : Nat) (D : va_G) (G : Nat → ClassId) (ad : Nat → Nat) (r : sR) (v : sV) (n : Nat) (x : Int64 × UInt64) (hsh : sSh r) (hn : 172 ≤ n) (cq : Nat) (bq : Nat) (hcb : okC cq bq) (x1 : Int32) : sMR l yX0_neighborsOf (.code yX0_neighborsOf cX0_neighborsOf 4 (some .int) :: wsL_law) rmX0_neighborsOf D G ad r v n x [.ref (ad cq), .int x1] (fX0_neighborsOf K cq bq x1 v) := by
  intro res hf
  refine Met.ofW (cc := cX0_neighborsOf) (maxL := 4) (ret := (some .int)) (by decide) rfl ?_
  intro p e s m args below meth c s₁ B hml hv
  obtain ⟨rfl, hU, hP⟩ := hv
  have hx := B.exec
  have hb := B.bytes
  have hrt := B.returns
  have hts : ∀ w ∈ wsL_law, w.before _ s = true := fun w hw => atoms_spec (ws := .code yX0_neighborsOf cX0_neighborsOf 4 (some .int) :: wsL_law) B.pre w (List.mem_cons_of_mem _ hw)
  have hlocks := B.notSynchronized
  have E : CallFix p m c cX0_neighborsOf 4 s ([.ref (ad cq), .int x1] : List Value).toArray wsL_law RX0 := ⟨hx, hb, hml, findClass_of_methodNamed B.named, hts⟩
  have hl := lv_entry ([.ref (ad cq), .int x1]) (n := 4) (Nat.le_of_ble_eq_true rfl)
  rw [lg_entry_eq]
  generalize (lg_sl ([.ref (ad cq), .int x1]) ++ List.replicate (4 - (lg_sl ([.ref (ad cq), .int x1])).length) Slot.unset).toArray = ls at hl ⊢
  have hl : lv_has ls 4 [(0, .ref (ad cq)), (1, .int x1)] := hl
  have hf := (fX0_neighborsOf.eq_1 ..).symm.trans hf
  refine lv_iconst (v := 0) hx hb dX0_neighborsOf_0 rfl ?_
  refine lv_istore_n (lv' := [(2, .int 0), (0, .ref (ad cq)), (1, .int x1)]) hx hb dX0_neighborsOf_1 rfl hl (Nat.le_of_ble_eq_true rfl) rfl (fun ls hl => ?_)
  refine lv_iconst (v := 0) hx hb dX0_neighborsOf_2 rfl ?_
  refine lv_istore_n (lv' := [(3, .int 0), (2, .int 0), (0, .ref (ad cq)), (1, .int x1)]) hx hb dX0_neighborsOf_3 rfl hl (Nat.le_of_ble_eq_true rfl) rfl (fun ls hl => ?_)
  exact lX0_neighborsOf_4 E hlocks hrt hU hsh hn hcb hP _ _ _ _ hf (lv_sub hl [2, 3, 1, 0] rfl)
abbrev rmX0_jamFrom : Room := { frames := 3, cells := 0, slots := 0, locals := 69 }
set_option maxRecDepth 100000 in
set_option maxHeartbeats 4000000 in
theorem wX0_jamFrom_68 {K : Nat} {cq : Nat} {bq : Nat} {x3 : Int32} {t0 : Int32} {res : Int32} (E : CallFix p m c cX0_jamFrom 6 s args wsL_law RX0) (hlocks : meth.locks = false) (hrt : meth.sig.returnType = (some .int)) (hU : sU D G s) (hsh : sSh r) (hn : 172 ≤ n) (hcb : okC cq bq) {v : sV} (hP : va_P D vwCl (sWl G ad r v n x) s.heap) {ls : Array Slot} (hf : bX0_jamFrom_68 K cq bq x3 t0 v = some res) (hl : lv_has ls 6 [(3, .int x3)]) :
    W p l e rmX0_jamFrom s m args below meth c s.heap [] 0 0 (MQ below (vp_Si (fun q => q = res)) args s 0 0 (fun _ => False)) (F0 m 68 ls [.int t0]) := by
  have hx := E.1
  have hb := E.2.1
  have hts := E.2.2.2.2
  have hf := (bX0_jamFrom_68.eq_1 ..).symm.trans hf
  refine lv_istore (lv' := [(4, .int t0), (3, .int x3)]) hx hb dX0_jamFrom_68 hl (Nat.le_of_ble_eq_true rfl) rfl (fun ls hl => ?_)
  refine lv_iload hx hb dX0_jamFrom_70 (lv_at hl 0 rfl) ?_
  refine lv_if_eq (tgt := 87) hx hb dX0_jamFrom_72 rfl (fun hc => ?_) (fun hc => ?_)
  · have hf := ite_t hf hc
    refine lv_iconst (v := 0) hx hb dX0_jamFrom_87 rfl ?_
    exact s_iretR E hrt hlocks hf dX0_jamFrom_88
  · have hf := ite_f hf hc
    refine lv_iload_n hx hb dX0_jamFrom_75 rfl (lv_at hl 1 rfl) ?_
    refine sc_R hf (rS_S (As := [.int x3]) (rest := []) E (mJ6_bitCount_0f7a4 l x3) (cwGS 1 okJ6_bitCount_0f7a4 wmX0_157 hts rfl rfl ⟨Nat.le_of_ble_eq_true rfl, Nat.le_of_ble_eq_true rfl⟩) rfl hl.1 (Nat.le_of_ble_eq_true rfl) dX0_jamFrom_76 ⟨Nat.zero_le _, Nat.zero_le _⟩ rfl) (fun y3 hf => ?_)
    refine lv_iconst (v := 2) hx hb dX0_jamFrom_79 rfl ?_
    refine lv_icmp_lt (tgt := 87) hx hb dX0_jamFrom_80 rfl (fun hc => ?_) (fun hc => ?_)
    · have hf := ite_t hf hc
      refine lv_iconst (v := 0) hx hb dX0_jamFrom_87 rfl ?_
      exact s_iretR E hrt hlocks hf dX0_jamFrom_88
    · have hf := ite_f hf hc
      refine lv_iload_n hx hb dX0_jamFrom_83 rfl (lv_at hl 1 rfl) ?_
      refine lv_goto (tgt := 88) hx hb dX0_jamFrom_84 rfl ?_
      exact s_iretR E hrt hlocks hf dX0_jamFrom_88
set_option maxRecDepth 100000 in
set_option maxHeartbeats 4000000 in
theorem wX0_jamFrom_53 {K : Nat} {cq : Nat} {bq : Nat} {x1 : Int32} {x3 : Int32} {res : Int32} (E : CallFix p m c cX0_jamFrom 6 s args wsL_law RX0) (hlocks : meth.locks = false) (hrt : meth.sig.returnType = (some .int)) (hU : sU D G s) (hsh : sSh r) (hn : 172 ≤ n) (hcb : okC cq bq) {v : sV} (hP : va_P D vwCl (sWl G ad r v n x) s.heap) {ls : Array Slot} (hf : bX0_jamFrom_53 K cq bq x1 x3 v = some res) (hl : lv_has ls 6 [(1, .int x1), (3, .int x3)]) :
    W p l e rmX0_jamFrom s m args below meth c s.heap [] 0 0 (MQ below (vp_Si (fun q => q = res)) args s 0 0 (fun _ => False)) (F0 m 53 ls []) := by
  have hx := E.1
  have hb := E.2.1
  have hts := E.2.2.2.2
  have hf := (bX0_jamFrom_53.eq_1 ..).symm.trans hf
  refine lv_iload_n hx hb dX0_jamFrom_53 rfl (lv_at hl 1 rfl) ?_
  refine lv_iconst (v := 1) hx hb dX0_jamFrom_54 rfl ?_
  refine lv_iload_n hx hb dX0_jamFrom_55 rfl (lv_at hl 0 rfl) ?_
  refine lv_ishl hx hb dX0_jamFrom_56 ?_
  refine lv_iconst (v := 1) hx hb dX0_jamFrom_57 rfl ?_
  refine lv_isub hx hb dX0_jamFrom_58 ?_
  refine lv_iand hx hb dX0_jamFrom_59 ?_
  refine lv_if_ne (tgt := 67) hx hb dX0_jamFrom_60 rfl (fun hc => ?_) (fun hc => ?_)
  · have hf := ite_f hf hc
    refine lv_iconst (v := 0) hx hb dX0_jamFrom_67 rfl ?_
    exact wX0_jamFrom_68 E hlocks hrt hU hsh hn hcb hP hf (lv_sub hl [1] rfl)
  · have hf := ite_t hf hc
    refine lv_iconst (v := 1) hx hb dX0_jamFrom_63 rfl ?_
    refine lv_goto (tgt := 68) hx hb dX0_jamFrom_64 rfl ?_
    exact wX0_jamFrom_68 E hlocks hrt hU hsh hn hcb hP hf (lv_sub hl [1] rfl)
set_option maxRecDepth 100000 in
set_option maxHeartbeats 4000000 in
theorem lX0_jamFrom_17 {K : Nat} {cq : Nat} {bq : Nat} {x1 : Int32} {x2 : Int32} {res : Int32} (E : CallFix p m c cX0_jamFrom 6 s args wsL_law RX0) (hlocks : meth.locks = false) (hrt : meth.sig.returnType = (some .int)) (hU : sU D G s) (hsh : sSh r) (hn : 172 ≤ n) (hcb : okC cq bq) {v : sV} (hP : va_P D vwCl (sWl G ad r v n x) s.heap) :
    ∀ (k : Nat) (x3 : Int32) (x4 : Int32) (ls : Array Slot), fx2 (gX0_jamFrom_17 K cq bq x1 x2 v) k x3 x4 = some res → lv_has ls 6 [(0, .ref (ad cq)), (1, .int x1), (2, .int x2), (3, .int x3), (4, .int x4)] → W p l e rmX0_jamFrom s m args below meth c s.heap [] 0 0 (MQ below (vp_Si (fun q => q = res)) args s 0 0 (fun _ => False)) (F0 m 17 ls []) := by
  have hx := E.1
  have hb := E.2.1
  have hts := E.2.2.2.2
  intro k
  induction k with
  | zero =>
    intro x3 x4 ls hf hl
    exact fx2_z hf
  | succ k ih =>
    intro x3 x4 ls hf hl
    have hf := (gX0_jamFrom_17.eq_1 ..).symm.trans hf
    refine lv_iload hx hb dX0_jamFrom_17 (lv_at hl 4 rfl) ?_
    refine lv_bipush (v := 16) hx hb dX0_jamFrom_19 rfl ?_
    refine lv_icmp_ge (tgt := 53) hx hb dX0_jamFrom_21 rfl (fun hc => ?_) (fun hc => ?_)
    · have hf := ite_t hf hc
      exact wX0_jamFrom_53 E hlocks hrt hU hsh hn hcb hP hf (lv_sub hl [1, 3] rfl)
    · have hf := ite_f hf hc
      refine lv_iload_n hx hb dX0_jamFrom_24 rfl (lv_at hl 3 rfl) ?_
      refine lv_aload_n hx hb dX0_jamFrom_25 rfl (lv_at hl 0 rfl) ?_
      refine lv_iload_n hx hb dX0_jamFrom_26 rfl (lv_at hl 3 rfl) ?_
      refine sc_R hf (rV_R (As := [.int x3]) (rest := [.int x3]) E hU hP sc2 (okC_lt hsh hcb hn) (okC_k hcb) (mX0_neighborsOf l K D G ad r _ n x hsh hn cq bq hcb x3) (cwGV 1 okX0_neighborsOf wmX0_154 hts rfl rfl ⟨Nat.le_of_ble_eq_true rfl, Nat.le_of_ble_eq_true rfl⟩) rfl hl.1 (Nat.le_of_ble_eq_true rfl) dX0_jamFrom_27 ⟨Nat.zero_le _, Nat.zero_le _⟩ rfl) (fun y4 hf => ?_)
      refine lv_iload_n hx hb dX0_jamFrom_30 rfl (lv_at hl 2 rfl) ?_
      refine lv_iand hx hb dX0_jamFrom_31 ?_
      refine lv_ior hx hb dX0_jamFrom_32 ?_
      refine s_nm hf (fun z5 hf => ?_)
      refine lv_istore (lv' := [(5, .int z5), (0, .ref (ad cq)), (1, .int x1), (2, .int x2), (3, .int x3), (4, .int x4)]) hx hb dX0_jamFrom_33 hl (Nat.le_of_ble_eq_true rfl) rfl (fun ls hl => ?_)
      refine lv_iload hx hb dX0_jamFrom_35 (lv_at hl 0 rfl) ?_
      refine lv_iload_n hx hb dX0_jamFrom_37 rfl (lv_at hl 4 rfl) ?_
      refine lv_icmp_ne (tgt := 44) hx hb dX0_jamFrom_38 rfl (fun hc => ?_) (fun hc => ?_)
      · have hf := ite_f hf hc
        refine lv_iload hx hb dX0_jamFrom_44 (lv_at hl 0 rfl) ?_
        refine lv_istore_n (lv' := [(3, .int z5), (5, .int z5), (0, .ref (ad cq)), (1, .int x1), (2, .int x2), (4, .int x4)]) hx hb dX0_jamFrom_46 rfl hl (Nat.le_of_ble_eq_true rfl) rfl (fun ls hl => ?_)
        obtain ⟨z6, ez9, hf⟩ := nm_x hf
        refine lv_iinc (v := z6) (lv' := [(4, .int z6), (3, .int z5), (5, .int z5), (0, .ref (ad cq)), (1, .int x1), (2, .int x2)]) hx hb dX0_jamFrom_47 hl (k := 5) rfl (by rw [ez9]; rfl) (Nat.le_of_ble_eq_true rfl) rfl (fun ls hl => ?_)
        refine lv_goto (tgt := 17) hx hb dX0_jamFrom_50 rfl ?_
        exact ih _ _ _ hf (lv_sub hl [3, 4, 5, 1, 0] rfl)
      · have hf := ite_t hf hc
        refine lv_goto (tgt := 53) hx hb dX0_jamFrom_41 rfl ?_
        exact wX0_jamFrom_53 E hlocks hrt hU hsh hn hcb hP hf (lv_sub hl [2, 4] rfl)
set_option maxRecDepth 100000 in
set_option maxHeartbeats 4000000 in
theorem mX0_jamFrom (l : Launch) (K : Nat) (D : va_G) (G : Nat → ClassId) (ad : Nat → Nat) (r : sR) (v : sV) (n : Nat) (x : Int64 × UInt64) (hsh : sSh r) (hn : 172 ≤ n) (cq : Nat) (bq : Nat) (hcb : okC cq bq) (x1 : Int32) (x2 : Int32) : sMR l yX0_jamFrom (.code yX0_jamFrom cX0_jamFrom 6 (some .int) :: wsL_law) rmX0_jamFrom D G ad r v n x [.ref (ad cq), .int x1, .int x2] (fX0_jamFrom K cq bq x1 x2 v) := by
  intro res hf
  refine Met.ofW (cc := cX0_jamFrom) (maxL := 6) (ret := (some .int)) (by decide) rfl ?_
  intro p e s m args below meth c s₁ B hml hv
  obtain ⟨rfl, hU, hP⟩ := hv
  have hx := B.exec
  have hb := B.bytes
  have hrt := B.returns
  have hts : ∀ w ∈ wsL_law, w.before _ s = true := fun w hw => atoms_spec (ws := .code yX0_jamFrom cX0_jamFrom 6 (some .int) :: wsL_law) B.pre w (List.mem_cons_of_mem _ hw)
  have hlocks := B.notSynchronized
  have E : CallFix p m c cX0_jamFrom 6 s ([.ref (ad cq), .int x1, .int x2] : List Value).toArray wsL_law RX0 := ⟨hx, hb, hml, findClass_of_methodNamed B.named, hts⟩
  have hl := lv_entry ([.ref (ad cq), .int x1, .int x2]) (n := 6) (Nat.le_of_ble_eq_true rfl)
  rw [lg_entry_eq]
  generalize (lg_sl ([.ref (ad cq), .int x1, .int x2]) ++ List.replicate (6 - (lg_sl ([.ref (ad cq), .int x1, .int x2])).length) Slot.unset).toArray = ls at hl ⊢
  have hl : lv_has ls 6 [(0, .ref (ad cq)), (1, .int x1), (2, .int x2)] := hl
  have hf := (fX0_jamFrom.eq_1 ..).symm.trans hf
  refine lv_iload_n hx hb dX0_jamFrom_0 rfl (lv_at hl 2 rfl) ?_
  refine lv_iload_n hx hb dX0_jamFrom_1 rfl (lv_at hl 1 rfl) ?_
  refine sc_R hf (rSN_S (As := [.int x2, .int x1]) (rest := []) E (mX6_isIn l x2 x1) (cwGN 2 okX6_isIn (hU.2.1 _ (List.mem_of_getElem? (i := 2) rfl)) hts rfl rfl ⟨Nat.le_of_ble_eq_true rfl, Nat.le_of_ble_eq_true rfl⟩) rfl hl.1 (Nat.le_of_ble_eq_true rfl) dX0_jamFrom_2 ⟨Nat.zero_le _, Nat.zero_le _⟩ rfl) (fun y1 hf => ?_)
  refine lv_if_ne (tgt := 10) hx hb dX0_jamFrom_5 rfl (fun hc => ?_) (fun hc => ?_)
  · have hf := ite_f hf hc
    refine lv_iconst (v := 1) hx hb dX0_jamFrom_10 rfl ?_
    refine lv_iload_n hx hb dX0_jamFrom_11 rfl (lv_at hl 1 rfl) ?_
    refine lv_ishl hx hb dX0_jamFrom_12 ?_
    refine s_nm hf (fun z2 hf => ?_)
    refine lv_istore_n (lv' := [(3, .int z2), (0, .ref (ad cq)), (1, .int x1), (2, .int x2)]) hx hb dX0_jamFrom_13 rfl hl (Nat.le_of_ble_eq_true rfl) rfl (fun ls hl => ?_)
    refine lv_iconst (v := 1) hx hb dX0_jamFrom_14 rfl ?_
    refine lv_istore (lv' := [(4, .int 1), (3, .int z2), (0, .ref (ad cq)), (1, .int x1), (2, .int x2)]) hx hb dX0_jamFrom_15 hl (Nat.le_of_ble_eq_true rfl) rfl (fun ls hl => ?_)
    exact lX0_jamFrom_17 E hlocks hrt hU hsh hn hcb hP _ _ _ _ hf (lv_sub hl [2, 3, 4, 1, 0] rfl)
  · have hf := ite_t hf hc
    refine lv_iconst (v := 0) hx hb dX0_jamFrom_8 rfl ?_
    exact s_iretR E hrt hlocks hf dX0_jamFrom_9
abbrev rmX6_jams : Room := { frames := 4, cells := 0, slots := 0, locals := 94 }
set_option maxRecDepth 100000 in
set_option maxHeartbeats 4000000 in
theorem lX6_jams_12 {K : Nat} {x1 : Int32} {res : Int32} (E : CallFix p m c cX6_jams 4 s args wsL_law RX6) (hlocks : meth.locks = false) (hrt : meth.sig.returnType = (some .int)) (hU : sU D G s) (hsh : sSh r) (hn : 172 ≤ n) {v : sV} (hP : va_P D vwCl (sWl G ad r v n x) s.heap) :
    ∀ (k : Nat) (x2 : Int32) (x3 : Int32) (ls : Array Slot), fx2 (gX6_jams_12 K x1 v) k x2 x3 = some res → lv_has ls 4 [(0, .ref (ad 0)), (1, .int x1), (2, .int x2), (3, .int x3)] → W p l e rmX6_jams s m args below meth c s.heap [] 0 0 (MQ below (vp_Si (fun q => q = res)) args s 0 0 (fun _ => False)) (F0 m 12 ls []) := by
  have hx := E.1
  have hb := E.2.1
  have hts := E.2.2.2.2
  intro k
  induction k with
  | zero =>
    intro x2 x3 ls hf hl
    exact fx2_z hf
  | succ k ih =>
    intro x2 x3 ls hf hl
    have hf := (gX6_jams_12.eq_1 ..).symm.trans hf
    refine lv_iload_n hx hb dX6_jams_12 rfl (lv_at hl 3 rfl) ?_
    refine lv_bipush (v := 16) hx hb dX6_jams_13 rfl ?_
    refine lv_icmp_ge (tgt := 39) hx hb dX6_jams_15 rfl (fun hc => ?_) (fun hc => ?_)
    · have hf := ite_t hf hc
      refine lv_iload_n hx hb dX6_jams_39 rfl (lv_at hl 2 rfl) ?_
      exact s_iretR E hrt hlocks hf dX6_jams_40
    · have hf := ite_f hf hc
      refine lv_aload_n hx hb dX6_jams_18 rfl (lv_at hl 0 rfl) ?_
      refine s_getR (k := 2) (t := 20) E hU hP sc8 (slt hsh hn 0 rfl) rfl inlX6 (Nat.le_of_ble_eq_true rfl) rfl rfl wkX6_28 (hsh.1 0 2 20 rfl) dX6_jams_19 ?_
      refine lv_iload_n hx hb dX6_jams_22 rfl (lv_at hl 3 rfl) ?_
      refine lv_iload_n hx hb dX6_jams_23 rfl (lv_at hl 1 rfl) ?_
      refine sc_R hf (rV_R (As := [.int x3, .int x1]) (rest := []) E hU hP sc2 (slt hsh hn 20 rfl) rfl (mX0_jamFrom l K D G ad r _ n x hsh hn 20 1 (Or.inl ⟨rfl, rfl⟩) x3 x1) (cwGV 2 okX0_jamFrom wmX6_281 hts rfl rfl ⟨Nat.le_of_ble_eq_true rfl, Nat.le_of_ble_eq_true rfl⟩) rfl hl.1 (Nat.le_of_ble_eq_true rfl) dX6_jams_24 ⟨Nat.zero_le _, Nat.zero_le _⟩ rfl) (fun y2 hf => ?_)
      refine lv_if_eq (tgt := 33) hx hb dX6_jams_27 rfl (fun hc => ?_) (fun hc => ?_)
      · have hf := ite_t hf hc
        obtain ⟨z3, ez9, hf⟩ := nm_x hf
        refine lv_iinc (v := z3) (lv' := [(3, .int z3), (0, .ref (ad 0)), (1, .int x1), (2, .int x2)]) hx hb dX6_jams_33 hl (k := 3) rfl (by rw [ez9]; rfl) (Nat.le_of_ble_eq_true rfl) rfl (fun ls hl => ?_)
        refine lv_goto (tgt := 12) hx hb dX6_jams_36 rfl ?_
        exact ih _ _ _ hf (lv_sub hl [1, 2, 3, 0] rfl)
      · have hf := ite_f hf hc
        obtain ⟨z4, ez9, hf⟩ := nm_x hf
        refine lv_iinc (v := z4) (lv' := [(2, .int z4), (0, .ref (ad 0)), (1, .int x1), (3, .int x3)]) hx hb dX6_jams_30 hl (k := 2) rfl (by rw [ez9]; rfl) (Nat.le_of_ble_eq_true rfl) rfl (fun ls hl => ?_)
        obtain ⟨z5, ez9, hf⟩ := nm_x hf
        refine lv_iinc (v := z5) (lv' := [(3, .int z5), (2, .int z4), (0, .ref (ad 0)), (1, .int x1)]) hx hb dX6_jams_33 hl (k := 3) rfl (by rw [ez9]; rfl) (Nat.le_of_ble_eq_true rfl) rfl (fun ls hl => ?_)
        refine lv_goto (tgt := 12) hx hb dX6_jams_36 rfl ?_
        exact ih _ _ _ hf (lv_sub hl [2, 3, 1, 0] rfl)
set_option maxRecDepth 100000 in
set_option maxHeartbeats 4000000 in
theorem mX6_jams (l : Launch) (K : Nat) (D : va_G) (G : Nat → ClassId) (ad : Nat → Nat) (r : sR) (v : sV) (n : Nat) (x : Int64 × UInt64) (hsh : sSh r) (hn : 172 ≤ n) : sMR l yX6_jams (.code yX6_jams cX6_jams 4 (some .int) :: wsL_law) rmX6_jams D G ad r v n x [.ref (ad 0)] (fX6_jams K v) := by
  intro res hf
  refine Met.ofW (cc := cX6_jams) (maxL := 4) (ret := (some .int)) (by decide) rfl ?_
  intro p e s m args below meth c s₁ B hml hv
  obtain ⟨rfl, hU, hP⟩ := hv
  have hx := B.exec
  have hb := B.bytes
  have hrt := B.returns
  have hts : ∀ w ∈ wsL_law, w.before _ s = true := fun w hw => atoms_spec (ws := .code yX6_jams cX6_jams 4 (some .int) :: wsL_law) B.pre w (List.mem_cons_of_mem _ hw)
  have hlocks := B.notSynchronized
  have E : CallFix p m c cX6_jams 4 s ([.ref (ad 0)] : List Value).toArray wsL_law RX6 := ⟨hx, hb, hml, findClass_of_methodNamed B.named, hts⟩
  have hl := lv_entry ([.ref (ad 0)]) (n := 4) (Nat.le_of_ble_eq_true rfl)
  rw [lg_entry_eq]
  generalize (lg_sl ([.ref (ad 0)]) ++ List.replicate (4 - (lg_sl ([.ref (ad 0)])).length) Slot.unset).toArray = ls at hl ⊢
  have hl : lv_has ls 4 [(0, .ref (ad 0))] := hl
  have hf := (fX6_jams.eq_1 ..).symm.trans hf
  refine lv_aload_n hx hb dX6_jams_0 rfl (lv_at hl 0 rfl) ?_
  refine s_getR (k := 2) (t := 20) E hU hP sc8 (slt hsh hn 0 rfl) rfl inlX6 (Nat.le_of_ble_eq_true rfl) rfl rfl wkX6_28 (hsh.1 0 2 20 rfl) dX6_jams_1 ?_
  refine sc_R hf (rV_R (As := []) (rest := []) E hU hP sc2 (slt hsh hn 20 rfl) rfl (mX0_stuckOnes l K D G ad r _ n x hsh hn 20 1 (Or.inl ⟨rfl, rfl⟩)) (cwGV 0 okX0_stuckOnes wmX6_220 hts rfl rfl ⟨Nat.le_of_ble_eq_true rfl, Nat.le_of_ble_eq_true rfl⟩) rfl hl.1 (Nat.le_of_ble_eq_true rfl) dX6_jams_4 ⟨Nat.zero_le _, Nat.zero_le _⟩ rfl) (fun y1 hf => ?_)
  refine lv_istore_n (lv' := [(1, .int y1), (0, .ref (ad 0))]) hx hb dX6_jams_7 rfl hl (Nat.le_of_ble_eq_true rfl) rfl (fun ls hl => ?_)
  refine lv_iconst (v := 0) hx hb dX6_jams_8 rfl ?_
  refine lv_istore_n (lv' := [(2, .int 0), (1, .int y1), (0, .ref (ad 0))]) hx hb dX6_jams_9 rfl hl (Nat.le_of_ble_eq_true rfl) rfl (fun ls hl => ?_)
  refine lv_iconst (v := 0) hx hb dX6_jams_10 rfl ?_
  refine lv_istore_n (lv' := [(3, .int 0), (2, .int 0), (1, .int y1), (0, .ref (ad 0))]) hx hb dX6_jams_11 rfl hl (Nat.le_of_ble_eq_true rfl) rfl (fun ls hl => ?_)
  exact lX6_jams_12 E hlocks hrt hU hsh hn hP _ _ _ _ hf (lv_sub hl [3, 2, 1, 0] rfl)
abbrev rmX5_copyFrom : Room := { frames := 1, cells := 0, slots := 0, locals := 60 }
set_option maxRecDepth 100000 in
set_option maxHeartbeats 4000000 in
theorem mX5_copyFrom (l : Launch) (D : va_G) (G : Nat → ClassId) (ad : Nat → Nat) (r : sR) (v : sV) (n : Nat) (x : Int64 × UInt64) (hsh : sSh r) (hn : 172 ≤ n) (bq : Nat) (dq : Nat) (hbq : okS r bq) (hdq : okS r dq) : sMV l yX5_copyFrom (.code yX5_copyFrom cX5_copyFrom 2 none :: wsL_law) rmX5_copyFrom D G ad r v n x [.ref (ad bq), .ref (ad dq)] (fX5_copyFrom bq dq v) := by
  intro sz res hf
  refine Met.ofW (cc := cX5_copyFrom) (maxL := 2) (ret := none) (by decide) rfl ?_
  intro p e s m args below meth c s₁ B hml hv
  obtain ⟨rfl, rfl, hU, hP, hD⟩ := hv
  have hx := B.exec
  have hb := B.bytes
  have hrt := B.returns
  have hts : ∀ w ∈ wsL_law, w.before _ s = true := fun w hw => atoms_spec (ws := .code yX5_copyFrom cX5_copyFrom 2 none :: wsL_law) B.pre w (List.mem_cons_of_mem _ hw)
  have hlocks := B.notSynchronized
  have E : CallFix p m c cX5_copyFrom 2 s ([.ref (ad bq), .ref (ad dq)] : List Value).toArray wsL_law RX5 := ⟨hx, hb, hml, findClass_of_methodNamed B.named, hts⟩
  have hB : sB D G (sA ad r n s.heap.size) s.heap ad r v n x s.heap [] := ⟨hP, sD_self hD, va_S.rf⟩
  have hl := lv_entry ([.ref (ad bq), .ref (ad dq)]) (n := 2) (Nat.le_of_ble_eq_true rfl)
  rw [lg_entry_eq]
  generalize (lg_sl ([.ref (ad bq), .ref (ad dq)]) ++ List.replicate (2 - (lg_sl ([.ref (ad bq), .ref (ad dq)])).length) Slot.unset).toArray = ls at hl ⊢
  have hl : lv_has ls 2 [(0, .ref (ad bq)), (1, .ref (ad dq))] := hl
  have hf := (fX5_copyFrom.eq_1 ..).symm.trans hf
  refine lv_aload_n hx hb dX5_copyFrom_0 rfl (lv_at hl 1 rfl) ?_
  refine s_getR (k := 0) (t := (dq + 1)) E hU hB.1 sc7 (okS_lt0 hsh hdq hn) (okS_k hsh hdq) inlX5 (Nat.le_of_ble_eq_true rfl) rfl rfl wkX5_9 (okS_r hsh hdq 0 rfl) dX5_copyFrom_1 ?_
  refine lv_iconst (v := 0) hx hb dX5_copyFrom_4 rfl ?_
  refine lv_aload_n hx hb dX5_copyFrom_5 rfl (lv_at hl 0 rfl) ?_
  refine s_getR (k := 0) (t := (bq + 1)) E hU hB.1 sc7 (okS_lt0 hsh hbq hn) (okS_k hsh hbq) inlX5 (Nat.le_of_ble_eq_true rfl) rfl rfl wkX5_9 (okS_r hsh hbq 0 rfl) dX5_copyFrom_6 ?_
  refine lv_iconst (v := 0) hx hb dX5_copyFrom_9 rfl ?_
  refine lv_sipush (v := 140) hx hb dX5_copyFrom_10 rfl ?_
  refine s_copy (nn := 140) E hU hB (okS_lt hsh hdq hn 1 rfl) (okS_kj hsh hdq 1 _ rfl) (okS_lt hsh hbq hn 1 rfl) (okS_kj hsh hbq 1 _ rfl) wmX5_58 wacn wacs waci hl.1 (Nat.le_of_ble_eq_true rfl) (by decide) (by decide) rfl dX5_copyFrom_13 hf (fun v1 hf H locs hB => ?_)
  refine lv_aload_n hx hb dX5_copyFrom_16 rfl (lv_at hl 1 rfl) ?_
  refine s_getR (k := 1) (t := (dq + 2)) E hU hB.1 sc7 (okS_lt0 hsh hdq hn) (okS_k hsh hdq) inlX5 (Nat.le_of_ble_eq_true rfl) rfl rfl wkX5_15 (okS_r hsh hdq 1 rfl) dX5_copyFrom_17 ?_
  refine lv_iconst (v := 0) hx hb dX5_copyFrom_20 rfl ?_
  refine lv_aload_n hx hb dX5_copyFrom_21 rfl (lv_at hl 0 rfl) ?_
  refine s_getR (k := 1) (t := (bq + 2)) E hU hB.1 sc7 (okS_lt0 hsh hbq hn) (okS_k hsh hbq) inlX5 (Nat.le_of_ble_eq_true rfl) rfl rfl wkX5_15 (okS_r hsh hbq 1 rfl) dX5_copyFrom_22 ?_
  refine lv_iconst (v := 0) hx hb dX5_copyFrom_25 rfl ?_
  refine lv_sipush (v := 140) hx hb dX5_copyFrom_26 rfl ?_
  refine s_copy (nn := 140) E hU hB (okS_lt hsh hdq hn 2 rfl) (okS_kj hsh hdq 2 _ rfl) (okS_lt hsh hbq hn 2 rfl) (okS_kj hsh hbq 2 _ rfl) wmX5_58 wacn wacs waci hl.1 (Nat.le_of_ble_eq_true rfl) (by decide) (by decide) rfl dX5_copyFrom_29 hf (fun v2 hf H locs hB => ?_)
  refine lv_aload_n hx hb dX5_copyFrom_32 rfl (lv_at hl 1 rfl) ?_
  refine s_getR (k := 2) (t := (dq + 3)) E hU hB.1 sc7 (okS_lt0 hsh hdq hn) (okS_k hsh hdq) inlX5 (Nat.le_of_ble_eq_true rfl) rfl rfl wkX5_18 (okS_r hsh hdq 2 rfl) dX5_copyFrom_33 ?_
  refine lv_iconst (v := 0) hx hb dX5_copyFrom_36 rfl ?_
  refine lv_aload_n hx hb dX5_copyFrom_37 rfl (lv_at hl 0 rfl) ?_
  refine s_getR (k := 2) (t := (bq + 3)) E hU hB.1 sc7 (okS_lt0 hsh hbq hn) (okS_k hsh hbq) inlX5 (Nat.le_of_ble_eq_true rfl) rfl rfl wkX5_18 (okS_r hsh hbq 2 rfl) dX5_copyFrom_38 ?_
  refine lv_iconst (v := 0) hx hb dX5_copyFrom_41 rfl ?_
  refine lv_iconst (v := 4) hx hb dX5_copyFrom_42 rfl ?_
  refine s_copy (nn := 4) E hU hB (okS_lt hsh hdq hn 3 rfl) (okS_kj hsh hdq 3 _ rfl) (okS_lt hsh hbq hn 3 rfl) (okS_kj hsh hbq 3 _ rfl) wmX5_58 wacn wacs waci hl.1 (Nat.le_of_ble_eq_true rfl) (by decide) (by decide) rfl dX5_copyFrom_43 hf (fun v3 hf H locs hB => ?_)
  refine lv_aload_n hx hb dX5_copyFrom_46 rfl (lv_at hl 1 rfl) ?_
  refine s_getR (k := 3) (t := (dq + 4)) E hU hB.1 sc7 (okS_lt0 hsh hdq hn) (okS_k hsh hdq) inlX5 (Nat.le_of_ble_eq_true rfl) rfl rfl wkX5_21 (okS_r hsh hdq 3 rfl) dX5_copyFrom_47 ?_
  refine lv_iconst (v := 0) hx hb dX5_copyFrom_50 rfl ?_
  refine lv_aload_n hx hb dX5_copyFrom_51 rfl (lv_at hl 0 rfl) ?_
  refine s_getR (k := 3) (t := (bq + 4)) E hU hB.1 sc7 (okS_lt0 hsh hbq hn) (okS_k hsh hbq) inlX5 (Nat.le_of_ble_eq_true rfl) rfl rfl wkX5_21 (okS_r hsh hbq 3 rfl) dX5_copyFrom_52 ?_
  refine lv_iconst (v := 0) hx hb dX5_copyFrom_55 rfl ?_
  refine lv_bipush (v := 16) hx hb dX5_copyFrom_56 rfl ?_
  refine s_copy (nn := 16) E hU hB (okS_lt hsh hdq hn 4 rfl) (okS_kj hsh hdq 4 _ rfl) (okS_lt hsh hbq hn 4 rfl) (okS_kj hsh hbq 4 _ rfl) wmX5_58 wacn wacs waci hl.1 (Nat.le_of_ble_eq_true rfl) (by decide) (by decide) rfl dX5_copyFrom_58 hf (fun v4 hf H locs hB => ?_)
  refine lv_aload_n hx hb dX5_copyFrom_61 rfl (lv_at hl 1 rfl) ?_
  refine s_getR (k := 4) (t := (dq + 5)) E hU hB.1 sc7 (okS_lt0 hsh hdq hn) (okS_k hsh hdq) inlX5 (Nat.le_of_ble_eq_true rfl) rfl rfl wkX5_24 (okS_r hsh hdq 4 rfl) dX5_copyFrom_62 ?_
  refine lv_iconst (v := 0) hx hb dX5_copyFrom_65 rfl ?_
  refine lv_aload_n hx hb dX5_copyFrom_66 rfl (lv_at hl 0 rfl) ?_
  refine s_getR (k := 4) (t := (bq + 5)) E hU hB.1 sc7 (okS_lt0 hsh hbq hn) (okS_k hsh hbq) inlX5 (Nat.le_of_ble_eq_true rfl) rfl rfl wkX5_24 (okS_r hsh hbq 4 rfl) dX5_copyFrom_67 ?_
  refine lv_iconst (v := 0) hx hb dX5_copyFrom_70 rfl ?_
  refine lv_bipush (v := 16) hx hb dX5_copyFrom_71 rfl ?_
  refine s_copy (nn := 16) E hU hB (okS_lt hsh hdq hn 5 rfl) (okS_kj hsh hdq 5 _ rfl) (okS_lt hsh hbq hn 5 rfl) (okS_kj hsh hbq 5 _ rfl) wmX5_58 wacn wacs waci hl.1 (Nat.le_of_ble_eq_true rfl) (by decide) (by decide) rfl dX5_copyFrom_73 hf (fun v5 hf H locs hB => ?_)
  refine lv_aload_n hx hb dX5_copyFrom_76 rfl (lv_at hl 1 rfl) ?_
  refine s_getR (k := 5) (t := (dq + 6)) E hU hB.1 sc7 (okS_lt0 hsh hdq hn) (okS_k hsh hdq) inlX5 (Nat.le_of_ble_eq_true rfl) rfl rfl wkX5_27 (okS_r hsh hdq 5 rfl) dX5_copyFrom_77 ?_
  refine lv_iconst (v := 0) hx hb dX5_copyFrom_80 rfl ?_
  refine lv_aload_n hx hb dX5_copyFrom_81 rfl (lv_at hl 0 rfl) ?_
  refine s_getR (k := 5) (t := (bq + 6)) E hU hB.1 sc7 (okS_lt0 hsh hbq hn) (okS_k hsh hbq) inlX5 (Nat.le_of_ble_eq_true rfl) rfl rfl wkX5_27 (okS_r hsh hbq 5 rfl) dX5_copyFrom_82 ?_
  refine lv_iconst (v := 0) hx hb dX5_copyFrom_85 rfl ?_
  refine lv_bipush (v := 16) hx hb dX5_copyFrom_86 rfl ?_
  refine s_copy (nn := 16) E hU hB (okS_lt hsh hdq hn 6 rfl) (okS_kj hsh hdq 6 _ rfl) (okS_lt hsh hbq hn 6 rfl) (okS_kj hsh hbq 6 _ rfl) wmX5_58 wacn wacs waci hl.1 (Nat.le_of_ble_eq_true rfl) (by decide) (by decide) rfl dX5_copyFrom_88 hf (fun v6 hf H locs hB => ?_)
  refine lv_aload_n hx hb dX5_copyFrom_91 rfl (lv_at hl 1 rfl) ?_
  refine s_getR (k := 6) (t := (dq + 7)) E hU hB.1 sc7 (okS_lt0 hsh hdq hn) (okS_k hsh hdq) inlX5 (Nat.le_of_ble_eq_true rfl) rfl rfl wkX5_30 (okS_r hsh hdq 6 rfl) dX5_copyFrom_92 ?_
  refine lv_iconst (v := 0) hx hb dX5_copyFrom_95 rfl ?_
  refine lv_aload_n hx hb dX5_copyFrom_96 rfl (lv_at hl 0 rfl) ?_
  refine s_getR (k := 6) (t := (bq + 7)) E hU hB.1 sc7 (okS_lt0 hsh hbq hn) (okS_k hsh hbq) inlX5 (Nat.le_of_ble_eq_true rfl) rfl rfl wkX5_30 (okS_r hsh hbq 6 rfl) dX5_copyFrom_97 ?_
  refine lv_iconst (v := 0) hx hb dX5_copyFrom_100 rfl ?_
  refine lv_bipush (v := 16) hx hb dX5_copyFrom_101 rfl ?_
  refine s_copy (nn := 16) E hU hB (okS_lt hsh hdq hn 7 rfl) (okS_kj hsh hdq 7 _ rfl) (okS_lt hsh hbq hn 7 rfl) (okS_kj hsh hbq 7 _ rfl) wmX5_58 wacn wacs waci hl.1 (Nat.le_of_ble_eq_true rfl) (by decide) (by decide) rfl dX5_copyFrom_103 hf (fun v7 hf H locs hB => ?_)
  refine lv_aload_n hx hb dX5_copyFrom_106 rfl (lv_at hl 1 rfl) ?_
  refine s_getR (k := 7) (t := (dq + 8)) E hU hB.1 sc7 (okS_lt0 hsh hdq hn) (okS_k hsh hdq) inlX5 (Nat.le_of_ble_eq_true rfl) rfl rfl wkX5_33 (okS_r hsh hdq 7 rfl) dX5_copyFrom_107 ?_
  refine lv_iconst (v := 0) hx hb dX5_copyFrom_110 rfl ?_
  refine lv_aload_n hx hb dX5_copyFrom_111 rfl (lv_at hl 0 rfl) ?_
  refine s_getR (k := 7) (t := (bq + 8)) E hU hB.1 sc7 (okS_lt0 hsh hbq hn) (okS_k hsh hbq) inlX5 (Nat.le_of_ble_eq_true rfl) rfl rfl wkX5_33 (okS_r hsh hbq 7 rfl) dX5_copyFrom_112 ?_
  refine lv_iconst (v := 0) hx hb dX5_copyFrom_115 rfl ?_
  refine lv_bipush (v := 16) hx hb dX5_copyFrom_116 rfl ?_
  refine s_copy (nn := 16) E hU hB (okS_lt hsh hdq hn 8 rfl) (okS_kj hsh hdq 8 _ rfl) (okS_lt hsh hbq hn 8 rfl) (okS_kj hsh hbq 8 _ rfl) wmX5_58 wacn wacs waci hl.1 (Nat.le_of_ble_eq_true rfl) (by decide) (by decide) rfl dX5_copyFrom_118 hf (fun v8 hf H locs hB => ?_)
  refine lv_aload_n hx hb dX5_copyFrom_121 rfl (lv_at hl 1 rfl) ?_
  refine s_getR (k := 8) (t := (dq + 9)) E hU hB.1 sc7 (okS_lt0 hsh hdq hn) (okS_k hsh hdq) inlX5 (Nat.le_of_ble_eq_true rfl) rfl rfl wkX5_36 (okS_r hsh hdq 8 rfl) dX5_copyFrom_122 ?_
  refine lv_iconst (v := 0) hx hb dX5_copyFrom_125 rfl ?_
  refine lv_aload_n hx hb dX5_copyFrom_126 rfl (lv_at hl 0 rfl) ?_
  refine s_getR (k := 8) (t := (bq + 9)) E hU hB.1 sc7 (okS_lt0 hsh hbq hn) (okS_k hsh hbq) inlX5 (Nat.le_of_ble_eq_true rfl) rfl rfl wkX5_36 (okS_r hsh hbq 8 rfl) dX5_copyFrom_127 ?_
  refine lv_iconst (v := 0) hx hb dX5_copyFrom_130 rfl ?_
  refine lv_bipush (v := 16) hx hb dX5_copyFrom_131 rfl ?_
  refine s_copy (nn := 16) E hU hB (okS_lt hsh hdq hn 9 rfl) (okS_kj hsh hdq 9 _ rfl) (okS_lt hsh hbq hn 9 rfl) (okS_kj hsh hbq 9 _ rfl) wmX5_58 wacn wacs waci hl.1 (Nat.le_of_ble_eq_true rfl) (by decide) (by decide) rfl dX5_copyFrom_133 hf (fun v9 hf H locs hB => ?_)
  refine lv_aload_n hx hb dX5_copyFrom_136 rfl (lv_at hl 1 rfl) ?_
  refine s_getR (k := 9) (t := (dq + 10)) E hU hB.1 sc7 (okS_lt0 hsh hdq hn) (okS_k hsh hdq) inlX5 (Nat.le_of_ble_eq_true rfl) rfl rfl wkX5_39 (okS_r hsh hdq 9 rfl) dX5_copyFrom_137 ?_
  refine lv_iconst (v := 0) hx hb dX5_copyFrom_140 rfl ?_
  refine lv_aload_n hx hb dX5_copyFrom_141 rfl (lv_at hl 0 rfl) ?_
  refine s_getR (k := 9) (t := (bq + 10)) E hU hB.1 sc7 (okS_lt0 hsh hbq hn) (okS_k hsh hbq) inlX5 (Nat.le_of_ble_eq_true rfl) rfl rfl wkX5_39 (okS_r hsh hbq 9 rfl) dX5_copyFrom_142 ?_
  refine lv_iconst (v := 0) hx hb dX5_copyFrom_145 rfl ?_
  refine lv_bipush (v := 16) hx hb dX5_copyFrom_146 rfl ?_
  refine s_copy (nn := 16) E hU hB (okS_lt hsh hdq hn 10 rfl) (okS_kj hsh hdq 10 _ rfl) (okS_lt hsh hbq hn 10 rfl) (okS_kj hsh hbq 10 _ rfl) wmX5_58 wacn wacs waci hl.1 (Nat.le_of_ble_eq_true rfl) (by decide) (by decide) rfl dX5_copyFrom_148 hf (fun v10 hf H locs hB => ?_)
  refine lv_aload_n hx hb dX5_copyFrom_151 rfl (lv_at hl 1 rfl) ?_
  refine s_getR (k := 10) (t := (dq + 11)) E hU hB.1 sc7 (okS_lt0 hsh hdq hn) (okS_k hsh hdq) inlX5 (Nat.le_of_ble_eq_true rfl) rfl rfl wkX5_42 (okS_r hsh hdq 10 rfl) dX5_copyFrom_152 ?_
  refine lv_iconst (v := 0) hx hb dX5_copyFrom_155 rfl ?_
  refine lv_aload_n hx hb dX5_copyFrom_156 rfl (lv_at hl 0 rfl) ?_
  refine s_getR (k := 10) (t := (bq + 11)) E hU hB.1 sc7 (okS_lt0 hsh hbq hn) (okS_k hsh hbq) inlX5 (Nat.le_of_ble_eq_true rfl) rfl rfl wkX5_42 (okS_r hsh hbq 10 rfl) dX5_copyFrom_157 ?_
  refine lv_iconst (v := 0) hx hb dX5_copyFrom_160 rfl ?_
  refine lv_bipush (v := 16) hx hb dX5_copyFrom_161 rfl ?_
  refine s_copy (nn := 16) E hU hB (okS_lt hsh hdq hn 11 rfl) (okS_kj hsh hdq 11 _ rfl) (okS_lt hsh hbq hn 11 rfl) (okS_kj hsh hbq 11 _ rfl) wmX5_58 wacn wacs waci hl.1 (Nat.le_of_ble_eq_true rfl) (by decide) (by decide) rfl dX5_copyFrom_163 hf (fun v11 hf H locs hB => ?_)
  refine lv_aload_n hx hb dX5_copyFrom_166 rfl (lv_at hl 1 rfl) ?_
  refine s_getR (k := 11) (t := (dq + 12)) E hU hB.1 sc7 (okS_lt0 hsh hdq hn) (okS_k hsh hdq) inlX5 (Nat.le_of_ble_eq_true rfl) rfl rfl wkX5_45 (okS_r hsh hdq 11 rfl) dX5_copyFrom_167 ?_
  refine lv_iconst (v := 0) hx hb dX5_copyFrom_170 rfl ?_
  refine lv_aload_n hx hb dX5_copyFrom_171 rfl (lv_at hl 0 rfl) ?_
  refine s_getR (k := 11) (t := (bq + 12)) E hU hB.1 sc7 (okS_lt0 hsh hbq hn) (okS_k hsh hbq) inlX5 (Nat.le_of_ble_eq_true rfl) rfl rfl wkX5_45 (okS_r hsh hbq 11 rfl) dX5_copyFrom_172 ?_
  refine lv_iconst (v := 0) hx hb dX5_copyFrom_175 rfl ?_
  refine lv_iconst (v := 5) hx hb dX5_copyFrom_176 rfl ?_
  refine s_copy (nn := 5) E hU hB (okS_lt hsh hdq hn 12 rfl) (okS_kj hsh hdq 12 _ rfl) (okS_lt hsh hbq hn 12 rfl) (okS_kj hsh hbq 12 _ rfl) wmX5_58 wacn wacs waci hl.1 (Nat.le_of_ble_eq_true rfl) (by decide) (by decide) rfl dX5_copyFrom_177 hf (fun v12 hf H locs hB => ?_)
  refine lv_aload_n hx hb dX5_copyFrom_180 rfl (lv_at hl 0 rfl) ?_
  refine lv_aload_n hx hb dX5_copyFrom_181 rfl (lv_at hl 1 rfl) ?_
  refine s_getI (k := 12) E hU hB.1 sc7 (okS_lt0 hsh hdq hn) (okS_k hsh hdq) inlX5 (Nat.le_of_ble_eq_true rfl) rfl rfl wkX5_48 dX5_copyFrom_182 ?_
  refine s_putI (k := 12) (ty1 := .int) E hU hB sc7 (okS_lt0 hsh hbq hn) (okS_k hsh hbq) inlX5 (Nat.le_of_ble_eq_true rfl) rfl rfl wkX5_48 rfl rfl rfl rfl dX5_copyFrom_185 hf (fun v13 hf H locs hB => ?_)
  exact s_vretW E hrt hlocks hB hf dX5_copyFrom_188
abbrev rmX0_all : Room := { frames := 1, cells := 0, slots := 0, locals := 21 }
set_option maxRecDepth 100000 in
set_option maxHeartbeats 4000000 in
theorem lX0_all_4 {K : Nat} {cq : Nat} {bq : Nat} {res : Int32} (E : CallFix p m c cX0_all 3 s args wsL_law RX0) (hlocks : meth.locks = false) (hrt : meth.sig.returnType = (some .int)) (hU : sU D G s) (hsh : sSh r) (hn : 172 ≤ n) (hcb : okC cq bq) {v : sV} (hP : va_P D vwCl (sWl G ad r v n x) s.heap) :
    ∀ (k : Nat) (x1 : Int32) (x2 : Int32) (ls : Array Slot), fx2 (gX0_all_4 K cq bq v) k x1 x2 = some res → lv_has ls 3 [(0, .ref (ad cq)), (1, .int x1), (2, .int x2)] → W p l e rmX0_all s m args below meth c s.heap [] 0 0 (MQ below (vp_Si (fun q => q = res)) args s 0 0 (fun _ => False)) (F0 m 4 ls []) := by
  have hx := E.1
  have hb := E.2.1
  have hts := E.2.2.2.2
  intro k
  induction k with
  | zero =>
    intro x1 x2 ls hf hl
    exact fx2_z hf
  | succ k ih =>
    intro x1 x2 ls hf hl
    have hf := (gX0_all_4.eq_1 ..).symm.trans hf
    refine lv_iload_n hx hb dX0_all_4 rfl (lv_at hl 2 rfl) ?_
    refine lv_bipush (v := 16) hx hb dX0_all_5 rfl ?_
    refine lv_icmp_ge (tgt := 30) hx hb dX0_all_7 rfl (fun hc => ?_) (fun hc => ?_)
    · have hf := ite_t hf hc
      refine lv_iload_n hx hb dX0_all_30 rfl (lv_at hl 1 rfl) ?_
      exact s_iretR E hrt hlocks hf dX0_all_31
    · have hf := ite_f hf hc
      refine lv_aload_n hx hb dX0_all_10 rfl (lv_at hl 0 rfl) ?_
      refine lv_iload_n hx hb dX0_all_11 rfl (lv_at hl 2 rfl) ?_
      refine sc_R hf (rV_R (As := [.int x2]) (rest := []) E hU hP sc2 (okC_lt hsh hcb hn) (okC_k hcb) (mX0_exists l D G ad r _ n x hsh hn cq bq hcb x2) (cwGV 1 okX0_exists wmX0_25 hts rfl rfl ⟨Nat.le_of_ble_eq_true rfl, Nat.le_of_ble_eq_true rfl⟩) rfl hl.1 (Nat.le_of_ble_eq_true rfl) dX0_all_12 ⟨Nat.zero_le _, Nat.zero_le _⟩ rfl) (fun y1 hf => ?_)
      refine lv_if_eq (tgt := 24) hx hb dX0_all_15 rfl (fun hc => ?_) (fun hc => ?_)
      · have hf := ite_t hf hc
        obtain ⟨z2, ez9, hf⟩ := nm_x hf
        refine lv_iinc (v := z2) (lv' := [(2, .int z2), (0, .ref (ad cq)), (1, .int x1)]) hx hb dX0_all_24 hl (k := 2) rfl (by rw [ez9]; rfl) (Nat.le_of_ble_eq_true rfl) rfl (fun ls hl => ?_)
        refine lv_goto (tgt := 4) hx hb dX0_all_27 rfl ?_
        exact ih _ _ _ hf (lv_sub hl [1, 2, 0] rfl)
      · have hf := ite_f hf hc
        refine lv_iload_n hx hb dX0_all_18 rfl (lv_at hl 1 rfl) ?_
        refine lv_iconst (v := 1) hx hb dX0_all_19 rfl ?_
        refine lv_iload_n hx hb dX0_all_20 rfl (lv_at hl 2 rfl) ?_
        refine lv_ishl hx hb dX0_all_21 ?_
        refine lv_ior hx hb dX0_all_22 ?_
        refine s_nm hf (fun z3 hf => ?_)
        refine lv_istore_n (lv' := [(1, .int z3), (0, .ref (ad cq)), (2, .int x2)]) hx hb dX0_all_23 rfl hl (Nat.le_of_ble_eq_true rfl) rfl (fun ls hl => ?_)
        obtain ⟨z4, ez9, hf⟩ := nm_x hf
        refine lv_iinc (v := z4) (lv' := [(2, .int z4), (1, .int z3), (0, .ref (ad cq))]) hx hb dX0_all_24 hl (k := 2) rfl (by rw [ez9]; rfl) (Nat.le_of_ble_eq_true rfl) rfl (fun ls hl => ?_)
        refine lv_goto (tgt := 4) hx hb dX0_all_27 rfl ?_
        exact ih _ _ _ hf (lv_sub hl [2, 1, 0] rfl)
set_option maxRecDepth 100000 in
set_option maxHeartbeats 4000000 in
theorem mX0_all (l : Launch) (K : Nat) (D : va_G) (G : Nat → ClassId) (ad : Nat → Nat) (r : sR) (v : sV) (n : Nat) (x : Int64 × UInt64) (hsh : sSh r) (hn : 172 ≤ n) (cq : Nat) (bq : Nat) (hcb : okC cq bq) : sMR l yX0_all (.code yX0_all cX0_all 3 (some .int) :: wsL_law) rmX0_all D G ad r v n x [.ref (ad cq)] (fX0_all K cq bq v) := by
  intro res hf
  refine Met.ofW (cc := cX0_all) (maxL := 3) (ret := (some .int)) (by decide) rfl ?_
  intro p e s m args below meth c s₁ B hml hv
  obtain ⟨rfl, hU, hP⟩ := hv
  have hx := B.exec
  have hb := B.bytes
  have hrt := B.returns
  have hts : ∀ w ∈ wsL_law, w.before _ s = true := fun w hw => atoms_spec (ws := .code yX0_all cX0_all 3 (some .int) :: wsL_law) B.pre w (List.mem_cons_of_mem _ hw)
  have hlocks := B.notSynchronized
  have E : CallFix p m c cX0_all 3 s ([.ref (ad cq)] : List Value).toArray wsL_law RX0 := ⟨hx, hb, hml, findClass_of_methodNamed B.named, hts⟩
  have hl := lv_entry ([.ref (ad cq)]) (n := 3) (Nat.le_of_ble_eq_true rfl)
  rw [lg_entry_eq]
  generalize (lg_sl ([.ref (ad cq)]) ++ List.replicate (3 - (lg_sl ([.ref (ad cq)])).length) Slot.unset).toArray = ls at hl ⊢
  have hl : lv_has ls 3 [(0, .ref (ad cq))] := hl
  have hf := (fX0_all.eq_1 ..).symm.trans hf
  refine lv_iconst (v := 0) hx hb dX0_all_0 rfl ?_
  refine lv_istore_n (lv' := [(1, .int 0), (0, .ref (ad cq))]) hx hb dX0_all_1 rfl hl (Nat.le_of_ble_eq_true rfl) rfl (fun ls hl => ?_)
  refine lv_iconst (v := 0) hx hb dX0_all_2 rfl ?_
  refine lv_istore_n (lv' := [(2, .int 0), (1, .int 0), (0, .ref (ad cq))]) hx hb dX0_all_3 rfl hl (Nat.le_of_ble_eq_true rfl) rfl (fun ls hl => ?_)
  exact lX0_all_4 E hlocks hrt hU hsh hn hcb hP _ _ _ _ hf (lv_sub hl [2, 1, 0] rfl)
abbrev rmX6_save : Room := { frames := 2, cells := 0, slots := 0, locals := 81 }
set_option maxRecDepth 100000 in
set_option maxHeartbeats 4000000 in
theorem mX6_save (l : Launch) (K : Nat) (D : va_G) (G : Nat → ClassId) (ad : Nat → Nat) (r : sR) (v : sV) (n : Nat) (x : Int64 × UInt64) (hsh : sSh r) (hn : 172 ≤ n) : sMI l yX6_save (.code yX6_save cX6_save 1 (some .int) :: wsL_law) rmX6_save D G ad r v n x [.ref (ad 0)] (fX6_save K v) := by
  intro sz res hf
  refine Met.ofW (cc := cX6_save) (maxL := 1) (ret := (some .int)) (by decide) rfl ?_
  intro p e s m args below meth c s₁ B hml hv
  obtain ⟨rfl, rfl, hU, hP, hD⟩ := hv
  have hx := B.exec
  have hb := B.bytes
  have hrt := B.returns
  have hts : ∀ w ∈ wsL_law, w.before _ s = true := fun w hw => atoms_spec (ws := .code yX6_save cX6_save 1 (some .int) :: wsL_law) B.pre w (List.mem_cons_of_mem _ hw)
  have hlocks := B.notSynchronized
  have E : CallFix p m c cX6_save 1 s ([.ref (ad 0)] : List Value).toArray wsL_law RX6 := ⟨hx, hb, hml, findClass_of_methodNamed B.named, hts⟩
  have hB : sB D G (sA ad r n s.heap.size) s.heap ad r v n x s.heap [] := ⟨hP, sD_self hD, va_S.rf⟩
  have hl := lv_entry ([.ref (ad 0)]) (n := 1) (Nat.le_of_ble_eq_true rfl)
  rw [lg_entry_eq]
  generalize (lg_sl ([.ref (ad 0)]) ++ List.replicate (1 - (lg_sl ([.ref (ad 0)])).length) Slot.unset).toArray = ls at hl ⊢
  have hl : lv_has ls 1 [(0, .ref (ad 0))] := hl
  have hf := (fX6_save.eq_1 ..).symm.trans hf
  refine lv_aload_n hx hb dX6_save_0 rfl (lv_at hl 0 rfl) ?_
  refine s_getR (k := 5) (t := 141) E hU hB.1 sc8 (slt hsh hn 0 rfl) rfl inlX6 (Nat.le_of_ble_eq_true rfl) rfl rfl wkX6_42 (hsh.1 0 5 141 rfl) dX6_save_1 ?_
  refine lv_aload_n hx hb dX6_save_4 rfl (lv_at hl 0 rfl) ?_
  refine s_getR (k := 0) (t := 1) E hU hB.1 sc8 (slt hsh hn 0 rfl) rfl inlX6 (Nat.le_of_ble_eq_true rfl) rfl rfl wkX6_12 (hsh.1 0 0 1 rfl) dX6_save_5 ?_
  refine sc_V hB (fun q h => Or.inr h) hf (fun q9 h9 => rV_W (As := [.ref (ad 1)]) (rest := []) E hU hB sc7 (slt hsh hn 141 rfl) rfl ((mX5_copyFrom l D G ad r _ n x hsh hn 141 1 (Or.inl (by decide)) (Or.inl (by decide))) _ _ h9) (cwGV 1 okX5_copyFrom wmX6_271 hts rfl rfl ⟨Nat.le_of_ble_eq_true rfl, Nat.le_of_ble_eq_true rfl⟩) rfl hl.1 (Nat.le_of_ble_eq_true rfl) dX6_save_8 ⟨Nat.zero_le _, Nat.zero_le _⟩ rfl) (fun v1 hf H locs hB => ?_)
  refine lv_aload_n hx hb dX6_save_11 rfl (lv_at hl 0 rfl) ?_
  refine lv_iconst (v := 1) hx hb dX6_save_12 rfl ?_
  refine s_putI (k := 6) (ty1 := .boolean) E hU hB sc8 (slt hsh hn 0 rfl) rfl inlX6 (Nat.le_of_ble_eq_true rfl) rfl rfl wkX6_45 rfl rfl rfl rfl dX6_save_13 hf (fun v2 hf H locs hB => ?_)
  refine lv_aload_n hx hb dX6_save_16 rfl (lv_at hl 0 rfl) ?_
  refine s_getR (k := 2) (t := 20) E hU hB.1 sc8 (slt hsh hn 0 rfl) rfl inlX6 (Nat.le_of_ble_eq_true rfl) rfl rfl wkX6_28 (hsh.1 0 2 20 rfl) dX6_save_17 ?_
  refine sc_R hf (rV_R (As := []) (rest := []) E hU hB.1 sc2 (slt hsh hn 20 rfl) rfl (mX0_all l K D G ad r _ n x hsh hn 20 1 (Or.inl ⟨rfl, rfl⟩)) (cwGV 0 okX0_all wmX6_177 hts rfl rfl ⟨Nat.le_of_ble_eq_true rfl, Nat.le_of_ble_eq_true rfl⟩) rfl hl.1 (Nat.le_of_ble_eq_true rfl) dX6_save_20 ⟨Nat.zero_le _, Nat.zero_le _⟩ rfl) (fun y3 hf => ?_)
  refine sc_R hf (rS_S (As := [.int y3]) (rest := []) E (mJ6_bitCount_0f7a4 l y3) (cwGS 1 okJ6_bitCount_0f7a4 wmX6_180 hts rfl rfl ⟨Nat.le_of_ble_eq_true rfl, Nat.le_of_ble_eq_true rfl⟩) rfl hl.1 (Nat.le_of_ble_eq_true rfl) dX6_save_23 ⟨Nat.zero_le _, Nat.zero_le _⟩ rfl) (fun y4 hf => ?_)
  exact s_iretW E hrt hlocks hB hf dX6_save_26
abbrev rmX6_isGoalOrNone : Room := { frames := 0, cells := 0, slots := 0, locals := 0 }
set_option maxRecDepth 100000 in
set_option maxHeartbeats 4000000 in
theorem mX6_isGoalOrNone (l : Launch) (x0 : Int32) : sMS l yX6_isGoalOrNone (.code yX6_isGoalOrNone cX6_isGoalOrNone 1 (some .boolean) :: wsL_law) rmX6_isGoalOrNone [.int x0] (fX6_isGoalOrNone x0) := by
  intro res hf
  refine Met.ofW (cc := cX6_isGoalOrNone) (maxL := 1) (ret := (some .boolean)) (by decide) rfl ?_
  intro p e s m args below meth c s₁ B hml hv
  obtain ⟨rfl, -⟩ := hv
  have hx := B.exec
  have hb := B.bytes
  have hrt := B.returns
  have hts : ∀ w ∈ wsL_law, w.before _ s = true := fun w hw => atoms_spec (ws := .code yX6_isGoalOrNone cX6_isGoalOrNone 1 (some .boolean) :: wsL_law) B.pre w (List.mem_cons_of_mem _ hw)
  have hlocks := B.notSynchronized
  have E : CallFix p m c cX6_isGoalOrNone 1 s ([.int x0] : List Value).toArray wsL_law RX6 := ⟨hx, hb, hml, findClass_of_methodNamed B.named, hts⟩
  have hl := lv_entry ([.int x0]) (n := 1) (Nat.le_of_ble_eq_true rfl)
  rw [lg_entry_eq]
  generalize (lg_sl ([.int x0]) ++ List.replicate (1 - (lg_sl ([.int x0])).length) Slot.unset).toArray = ls at hl ⊢
  have hl : lv_has ls 1 [(0, .int x0)] := hl
  have hf := (fX6_isGoalOrNone.eq_1 ..).symm.trans hf
  refine lv_iload_n hx hb dX6_isGoalOrNone_0 rfl (lv_at hl 0 rfl) ?_
  refine lv_iconst (v := (-1)) hx hb dX6_isGoalOrNone_1 rfl ?_
  refine lv_icmp_lt (tgt := 14) hx hb dX6_isGoalOrNone_2 rfl (fun hc => ?_) (fun hc => ?_)
  · have hf := ite_t hf hc
    refine lv_iconst (v := 0) hx hb dX6_isGoalOrNone_14 rfl ?_
    exact s_zretR E hrt hlocks rfl hf dX6_isGoalOrNone_15
  · have hf := ite_f hf hc
    refine lv_iload_n hx hb dX6_isGoalOrNone_5 rfl (lv_at hl 0 rfl) ?_
    refine lv_iconst (v := 4) hx hb dX6_isGoalOrNone_6 rfl ?_
    refine lv_icmp_ge (tgt := 14) hx hb dX6_isGoalOrNone_7 rfl (fun hc => ?_) (fun hc => ?_)
    · have hf := ite_t hf hc
      refine lv_iconst (v := 0) hx hb dX6_isGoalOrNone_14 rfl ?_
      exact s_zretR E hrt hlocks rfl hf dX6_isGoalOrNone_15
    · have hf := ite_f hf hc
      refine lv_iconst (v := 1) hx hb dX6_isGoalOrNone_10 rfl ?_
      refine lv_goto (tgt := 15) hx hb dX6_isGoalOrNone_11 rfl ?_
      exact s_zretR E hrt hlocks rfl hf dX6_isGoalOrNone_15
abbrev rmX6_isPriority : Room := { frames := 0, cells := 0, slots := 0, locals := 0 }
set_option maxRecDepth 100000 in
set_option maxHeartbeats 4000000 in
theorem mX6_isPriority (l : Launch) (x0 : Int32) : sMS l yX6_isPriority (.code yX6_isPriority cX6_isPriority 1 (some .boolean) :: wsL_law) rmX6_isPriority [.int x0] (fX6_isPriority x0) := by
  intro res hf
  refine Met.ofW (cc := cX6_isPriority) (maxL := 1) (ret := (some .boolean)) (by decide) rfl ?_
  intro p e s m args below meth c s₁ B hml hv
  obtain ⟨rfl, -⟩ := hv
  have hx := B.exec
  have hb := B.bytes
  have hrt := B.returns
  have hts : ∀ w ∈ wsL_law, w.before _ s = true := fun w hw => atoms_spec (ws := .code yX6_isPriority cX6_isPriority 1 (some .boolean) :: wsL_law) B.pre w (List.mem_cons_of_mem _ hw)
  have hlocks := B.notSynchronized
  have E : CallFix p m c cX6_isPriority 1 s ([.int x0] : List Value).toArray wsL_law RX6 := ⟨hx, hb, hml, findClass_of_methodNamed B.named, hts⟩
  have hl := lv_entry ([.int x0]) (n := 1) (Nat.le_of_ble_eq_true rfl)
  rw [lg_entry_eq]
  generalize (lg_sl ([.int x0]) ++ List.replicate (1 - (lg_sl ([.int x0])).length) Slot.unset).toArray = ls at hl ⊢
  have hl : lv_has ls 1 [(0, .int x0)] := hl
  have hf := (fX6_isPriority.eq_1 ..).symm.trans hf
  refine lv_iload_n hx hb dX6_isPriority_0 rfl (lv_at hl 0 rfl) ?_
  refine lv_if_lt (tgt := 14) hx hb dX6_isPriority_1 rfl (fun hc => ?_) (fun hc => ?_)
  · have hf := ite_t hf hc
    refine lv_iconst (v := 0) hx hb dX6_isPriority_14 rfl ?_
    exact s_zretR E hrt hlocks rfl hf dX6_isPriority_15
  · have hf := ite_f hf hc
    refine lv_iload_n hx hb dX6_isPriority_4 rfl (lv_at hl 0 rfl) ?_
    refine lv_bipush (v := 9) hx hb dX6_isPriority_5 rfl ?_
    refine lv_icmp_gt (tgt := 14) hx hb dX6_isPriority_7 rfl (fun hc => ?_) (fun hc => ?_)
    · have hf := ite_t hf hc
      refine lv_iconst (v := 0) hx hb dX6_isPriority_14 rfl ?_
      exact s_zretR E hrt hlocks rfl hf dX6_isPriority_15
    · have hf := ite_f hf hc
      refine lv_iconst (v := 1) hx hb dX6_isPriority_10 rfl ?_
      refine lv_goto (tgt := 15) hx hb dX6_isPriority_11 rfl ?_
      exact s_zretR E hrt hlocks rfl hf dX6_isPriority_15
abbrev rmX6_isOffset : Room := { frames := 0, cells := 0, slots := 0, locals := 0 }
set_option maxRecDepth 100000 in
set_option maxHeartbeats 4000000 in
theorem mX6_isOffset (l : Launch) (x0 : Int32) : sMS l yX6_isOffset (.code yX6_isOffset cX6_isOffset 1 (some .boolean) :: wsL_law) rmX6_isOffset [.int x0] (fX6_isOffset x0) := by
  intro res hf
  refine Met.ofW (cc := cX6_isOffset) (maxL := 1) (ret := (some .boolean)) (by decide) rfl ?_
  intro p e s m args below meth c s₁ B hml hv
  obtain ⟨rfl, -⟩ := hv
  have hx := B.exec
  have hb := B.bytes
  have hrt := B.returns
  have hts : ∀ w ∈ wsL_law, w.before _ s = true := fun w hw => atoms_spec (ws := .code yX6_isOffset cX6_isOffset 1 (some .boolean) :: wsL_law) B.pre w (List.mem_cons_of_mem _ hw)
  have hlocks := B.notSynchronized
  have E : CallFix p m c cX6_isOffset 1 s ([.int x0] : List Value).toArray wsL_law RX6 := ⟨hx, hb, hml, findClass_of_methodNamed B.named, hts⟩
  have hl := lv_entry ([.int x0]) (n := 1) (Nat.le_of_ble_eq_true rfl)
  rw [lg_entry_eq]
  generalize (lg_sl ([.int x0]) ++ List.replicate (1 - (lg_sl ([.int x0])).length) Slot.unset).toArray = ls at hl ⊢
  have hl : lv_has ls 1 [(0, .int x0)] := hl
  have hf := (fX6_isOffset.eq_1 ..).symm.trans hf
  refine lv_iload_n hx hb dX6_isOffset_0 rfl (lv_at hl 0 rfl) ?_
  refine lv_bipush (v := (-3)) hx hb dX6_isOffset_1 rfl ?_
  refine lv_icmp_lt (tgt := 15) hx hb dX6_isOffset_3 rfl (fun hc => ?_) (fun hc => ?_)
  · have hf := ite_t hf hc
    refine lv_iconst (v := 0) hx hb dX6_isOffset_15 rfl ?_
    exact s_zretR E hrt hlocks rfl hf dX6_isOffset_16
  · have hf := ite_f hf hc
    refine lv_iload_n hx hb dX6_isOffset_6 rfl (lv_at hl 0 rfl) ?_
    refine lv_iconst (v := 3) hx hb dX6_isOffset_7 rfl ?_
    refine lv_icmp_gt (tgt := 15) hx hb dX6_isOffset_8 rfl (fun hc => ?_) (fun hc => ?_)
    · have hf := ite_t hf hc
      refine lv_iconst (v := 0) hx hb dX6_isOffset_15 rfl ?_
      exact s_zretR E hrt hlocks rfl hf dX6_isOffset_16
    · have hf := ite_f hf hc
      refine lv_iconst (v := 1) hx hb dX6_isOffset_11 rfl ?_
      refine lv_goto (tgt := 16) hx hb dX6_isOffset_12 rfl ?_
      exact s_zretR E hrt hlocks rfl hf dX6_isOffset_16
abbrev rmX6_cellAt : Room := { frames := 0, cells := 0, slots := 0, locals := 0 }
set_option maxRecDepth 100000 in
set_option maxHeartbeats 4000000 in
theorem wX6_cellAt_25 {x0 : Int32} {x1 : Int32} {t0 : Int32} {res : Int32} (E : CallFix p m c cX6_cellAt 3 s args wsL_law RX6) (hlocks : meth.locks = false) (hrt : meth.sig.returnType = (some .int)) {ls : Array Slot} (hf : bX6_cellAt_25 x0 x1 t0 = some res) (hl : lv_has ls 3 [(0, .int x0), (1, .int x1)]) :
    W p l e rmX6_cellAt s m args below meth c s.heap [] 0 0 (MQ below (vp_Si (fun q => q = res)) args s 0 0 (fun _ => False)) (F0 m 25 ls [.int t0]) := by
  have hx := E.1
  have hb := E.2.1
  have hts := E.2.2.2.2
  have hf := (bX6_cellAt_25.eq_1 ..).symm.trans hf
  refine lv_istore_n (lv' := [(2, .int t0), (0, .int x0), (1, .int x1)]) hx hb dX6_cellAt_25 rfl hl (Nat.le_of_ble_eq_true rfl) rfl (fun ls hl => ?_)
  refine lv_iload_n hx hb dX6_cellAt_26 rfl (lv_at hl 0 rfl) ?_
  refine lv_if_eq (tgt := 39) hx hb dX6_cellAt_27 rfl (fun hc => ?_) (fun hc => ?_)
  · have hf := ite_t hf hc
    refine lv_iconst (v := (-1)) hx hb dX6_cellAt_39 rfl ?_
    exact s_iretR E hrt hlocks hf dX6_cellAt_40
  · have hf := ite_f hf hc
    refine lv_iload_n hx hb dX6_cellAt_30 rfl (lv_at hl 2 rfl) ?_
    refine lv_bipush (v := 14) hx hb dX6_cellAt_31 rfl ?_
    refine lv_imul hx hb dX6_cellAt_33 ?_
    refine lv_iload_n hx hb dX6_cellAt_34 rfl (lv_at hl 1 rfl) ?_
    refine lv_iadd hx hb dX6_cellAt_35 ?_
    refine lv_goto (tgt := 40) hx hb dX6_cellAt_36 rfl ?_
    exact s_iretR E hrt hlocks hf dX6_cellAt_40
set_option maxRecDepth 100000 in
set_option maxHeartbeats 4000000 in
theorem mX6_cellAt (l : Launch) (x0 : Int32) (x1 : Int32) : sMS l yX6_cellAt (.code yX6_cellAt cX6_cellAt 3 (some .int) :: wsL_law) rmX6_cellAt [.int x0, .int x1] (fX6_cellAt x0 x1) := by
  intro res hf
  refine Met.ofW (cc := cX6_cellAt) (maxL := 3) (ret := (some .int)) (by decide) rfl ?_
  intro p e s m args below meth c s₁ B hml hv
  obtain ⟨rfl, -⟩ := hv
  have hx := B.exec
  have hb := B.bytes
  have hrt := B.returns
  have hts : ∀ w ∈ wsL_law, w.before _ s = true := fun w hw => atoms_spec (ws := .code yX6_cellAt cX6_cellAt 3 (some .int) :: wsL_law) B.pre w (List.mem_cons_of_mem _ hw)
  have hlocks := B.notSynchronized
  have E : CallFix p m c cX6_cellAt 3 s ([.int x0, .int x1] : List Value).toArray wsL_law RX6 := ⟨hx, hb, hml, findClass_of_methodNamed B.named, hts⟩
  have hl := lv_entry ([.int x0, .int x1]) (n := 3) (Nat.le_of_ble_eq_true rfl)
  rw [lg_entry_eq]
  generalize (lg_sl ([.int x0, .int x1]) ++ List.replicate (3 - (lg_sl ([.int x0, .int x1])).length) Slot.unset).toArray = ls at hl ⊢
  have hl : lv_has ls 3 [(0, .int x0), (1, .int x1)] := hl
  have hf := (fX6_cellAt.eq_1 ..).symm.trans hf
  refine lv_iload_n hx hb dX6_cellAt_0 rfl (lv_at hl 0 rfl) ?_
  refine lv_if_lt (tgt := 24) hx hb dX6_cellAt_1 rfl (fun hc => ?_) (fun hc => ?_)
  · have hf := ite_t hf hc
    refine lv_iconst (v := 0) hx hb dX6_cellAt_24 rfl ?_
    exact wX6_cellAt_25 E hlocks hrt hf (lv_sub hl [0, 1] rfl)
  · have hf := ite_f hf hc
    refine lv_iload_n hx hb dX6_cellAt_4 rfl (lv_at hl 0 rfl) ?_
    refine lv_bipush (v := 14) hx hb dX6_cellAt_5 rfl ?_
    refine lv_icmp_ge (tgt := 24) hx hb dX6_cellAt_7 rfl (fun hc => ?_) (fun hc => ?_)
    · have hf := ite_t hf hc
      refine lv_iconst (v := 0) hx hb dX6_cellAt_24 rfl ?_
      exact wX6_cellAt_25 E hlocks hrt hf (lv_sub hl [0, 1] rfl)
    · have hf := ite_f hf hc
      refine lv_iload_n hx hb dX6_cellAt_10 rfl (lv_at hl 1 rfl) ?_
      refine lv_if_lt (tgt := 24) hx hb dX6_cellAt_11 rfl (fun hc => ?_) (fun hc => ?_)
      · have hf := ite_t hf hc
        refine lv_iconst (v := 0) hx hb dX6_cellAt_24 rfl ?_
        exact wX6_cellAt_25 E hlocks hrt hf (lv_sub hl [0, 1] rfl)
      · have hf := ite_f hf hc
        refine lv_iload_n hx hb dX6_cellAt_14 rfl (lv_at hl 1 rfl) ?_
        refine lv_bipush (v := 10) hx hb dX6_cellAt_15 rfl ?_
        refine lv_icmp_ge (tgt := 24) hx hb dX6_cellAt_17 rfl (fun hc => ?_) (fun hc => ?_)
        · have hf := ite_t hf hc
          refine lv_iconst (v := 0) hx hb dX6_cellAt_24 rfl ?_
          exact wX6_cellAt_25 E hlocks hrt hf (lv_sub hl [0, 1] rfl)
        · have hf := ite_f hf hc
          refine lv_iconst (v := 1) hx hb dX6_cellAt_20 rfl ?_
          refine lv_goto (tgt := 25) hx hb dX6_cellAt_21 rfl ?_
          exact wX6_cellAt_25 E hlocks hrt hf (lv_sub hl [0, 1] rfl)
abbrev rmX6_columnOf : Room := { frames := 0, cells := 0, slots := 0, locals := 0 }
set_option maxRecDepth 100000 in
set_option maxHeartbeats 4000000 in
theorem mX6_columnOf (l : Launch) (x0 : Int32) : sMS l yX6_columnOf (.code yX6_columnOf cX6_columnOf 1 (some .int) :: wsL_law) rmX6_columnOf [.int x0] (fX6_columnOf x0) := by
  intro res hf
  refine Met.ofW (cc := cX6_columnOf) (maxL := 1) (ret := (some .int)) (by decide) rfl ?_
  intro p e s m args below meth c s₁ B hml hv
  obtain ⟨rfl, -⟩ := hv
  have hx := B.exec
  have hb := B.bytes
  have hrt := B.returns
  have hts : ∀ w ∈ wsL_law, w.before _ s = true := fun w hw => atoms_spec (ws := .code yX6_columnOf cX6_columnOf 1 (some .int) :: wsL_law) B.pre w (List.mem_cons_of_mem _ hw)
  have hlocks := B.notSynchronized
  have E : CallFix p m c cX6_columnOf 1 s ([.int x0] : List Value).toArray wsL_law RX6 := ⟨hx, hb, hml, findClass_of_methodNamed B.named, hts⟩
  have hl := lv_entry ([.int x0]) (n := 1) (Nat.le_of_ble_eq_true rfl)
  rw [lg_entry_eq]
  generalize (lg_sl ([.int x0]) ++ List.replicate (1 - (lg_sl ([.int x0])).length) Slot.unset).toArray = ls at hl ⊢
  have hl : lv_has ls 1 [(0, .int x0)] := hl
  have hf := (fX6_columnOf.eq_1 ..).symm.trans hf
  refine lv_iload_n hx hb dX6_columnOf_0 rfl (lv_at hl 0 rfl) ?_
  refine lv_iconst (v := (-1)) hx hb dX6_columnOf_1 rfl ?_
  refine lv_icmp_ne (tgt := 9) hx hb dX6_columnOf_2 rfl (fun hc => ?_) (fun hc => ?_)
  · have hf := ite_f hf hc
    refine lv_iload_n hx hb dX6_columnOf_9 rfl (lv_at hl 0 rfl) ?_
    refine lv_bipush (v := 14) hx hb dX6_columnOf_10 rfl ?_
    refine lv_irem hx hb dX6_columnOf_12 (by decide) ?_
    exact s_iretR E hrt hlocks hf dX6_columnOf_13
  · have hf := ite_t hf hc
    refine lv_iconst (v := (-1)) hx hb dX6_columnOf_5 rfl ?_
    refine lv_goto (tgt := 13) hx hb dX6_columnOf_6 rfl ?_
    exact s_iretR E hrt hlocks hf dX6_columnOf_13
abbrev rmX6_rowOf : Room := { frames := 0, cells := 0, slots := 0, locals := 0 }
set_option maxRecDepth 100000 in
set_option maxHeartbeats 4000000 in
theorem mX6_rowOf (l : Launch) (x0 : Int32) : sMS l yX6_rowOf (.code yX6_rowOf cX6_rowOf 1 (some .int) :: wsL_law) rmX6_rowOf [.int x0] (fX6_rowOf x0) := by
  intro res hf
  refine Met.ofW (cc := cX6_rowOf) (maxL := 1) (ret := (some .int)) (by decide) rfl ?_
  intro p e s m args below meth c s₁ B hml hv
  obtain ⟨rfl, -⟩ := hv
  have hx := B.exec
  have hb := B.bytes
  have hrt := B.returns
  have hts : ∀ w ∈ wsL_law, w.before _ s = true := fun w hw => atoms_spec (ws := .code yX6_rowOf cX6_rowOf 1 (some .int) :: wsL_law) B.pre w (List.mem_cons_of_mem _ hw)
  have hlocks := B.notSynchronized
  have E : CallFix p m c cX6_rowOf 1 s ([.int x0] : List Value).toArray wsL_law RX6 := ⟨hx, hb, hml, findClass_of_methodNamed B.named, hts⟩
  have hl := lv_entry ([.int x0]) (n := 1) (Nat.le_of_ble_eq_true rfl)
  rw [lg_entry_eq]
  generalize (lg_sl ([.int x0]) ++ List.replicate (1 - (lg_sl ([.int x0])).length) Slot.unset).toArray = ls at hl ⊢
  have hl : lv_has ls 1 [(0, .int x0)] := hl
  have hf := (fX6_rowOf.eq_1 ..).symm.trans hf
  refine lv_iload_n hx hb dX6_rowOf_0 rfl (lv_at hl 0 rfl) ?_
  refine lv_iconst (v := (-1)) hx hb dX6_rowOf_1 rfl ?_
  refine lv_icmp_ne (tgt := 9) hx hb dX6_rowOf_2 rfl (fun hc => ?_) (fun hc => ?_)
  · have hf := ite_f hf hc
    refine lv_iload_n hx hb dX6_rowOf_9 rfl (lv_at hl 0 rfl) ?_
    refine lv_bipush (v := 14) hx hb dX6_rowOf_10 rfl ?_
    refine lv_idiv hx hb dX6_rowOf_12 (by decide) ?_
    exact s_iretR E hrt hlocks hf dX6_rowOf_13
  · have hf := ite_t hf hc
    refine lv_iconst (v := (-1)) hx hb dX6_rowOf_5 rfl ?_
    refine lv_goto (tgt := 13) hx hb dX6_rowOf_6 rfl ?_
    exact s_iretR E hrt hlocks hf dX6_rowOf_13
abbrev rmX0_lowestUnused : Room := { frames := 1, cells := 0, slots := 0, locals := 21 }
set_option maxRecDepth 100000 in
set_option maxHeartbeats 4000000 in
theorem lX0_lowestUnused_2 {K : Nat} {cq : Nat} {bq : Nat} {res : Int32} (E : CallFix p m c cX0_lowestUnused 2 s args wsL_law RX0) (hlocks : meth.locks = false) (hrt : meth.sig.returnType = (some .int)) (hU : sU D G s) (hsh : sSh r) (hn : 172 ≤ n) (hcb : okC cq bq) {v : sV} (hP : va_P D vwCl (sWl G ad r v n x) s.heap) :
    ∀ (k : Nat) (x1 : Int32) (ls : Array Slot), fx1 (gX0_lowestUnused_2 K cq bq v) k x1 = some res → lv_has ls 2 [(0, .ref (ad cq)), (1, .int x1)] → W p l e rmX0_lowestUnused s m args below meth c s.heap [] 0 0 (MQ below (vp_Si (fun q => q = res)) args s 0 0 (fun _ => False)) (F0 m 2 ls []) := by
  have hx := E.1
  have hb := E.2.1
  have hts := E.2.2.2.2
  intro k
  induction k with
  | zero =>
    intro x1 ls hf hl
    exact fx1_z hf
  | succ k ih =>
    intro x1 ls hf hl
    have hf := (gX0_lowestUnused_2.eq_1 ..).symm.trans hf
    refine lv_iload_n hx hb dX0_lowestUnused_2 rfl (lv_at hl 1 rfl) ?_
    refine lv_bipush (v := 16) hx hb dX0_lowestUnused_3 rfl ?_
    refine lv_icmp_ge (tgt := 24) hx hb dX0_lowestUnused_5 rfl (fun hc => ?_) (fun hc => ?_)
    · have hf := ite_t hf hc
      refine lv_iconst (v := (-1)) hx hb dX0_lowestUnused_24 rfl ?_
      exact s_iretR E hrt hlocks hf dX0_lowestUnused_25
    · have hf := ite_f hf hc
      refine lv_aload_n hx hb dX0_lowestUnused_8 rfl (lv_at hl 0 rfl) ?_
      refine lv_iload_n hx hb dX0_lowestUnused_9 rfl (lv_at hl 1 rfl) ?_
      refine sc_R hf (rV_R (As := [.int x1]) (rest := []) E hU hP sc2 (okC_lt hsh hcb hn) (okC_k hcb) (mX0_exists l D G ad r _ n x hsh hn cq bq hcb x1) (cwGV 1 okX0_exists wmX0_25 hts rfl rfl ⟨Nat.le_of_ble_eq_true rfl, Nat.le_of_ble_eq_true rfl⟩) rfl hl.1 (Nat.le_of_ble_eq_true rfl) dX0_lowestUnused_10 ⟨Nat.zero_le _, Nat.zero_le _⟩ rfl) (fun y1 hf => ?_)
      refine lv_if_ne (tgt := 18) hx hb dX0_lowestUnused_13 rfl (fun hc => ?_) (fun hc => ?_)
      · have hf := ite_f hf hc
        obtain ⟨z2, ez9, hf⟩ := nm_x hf
        refine lv_iinc (v := z2) (lv' := [(1, .int z2), (0, .ref (ad cq))]) hx hb dX0_lowestUnused_18 hl (k := 1) rfl (by rw [ez9]; rfl) (Nat.le_of_ble_eq_true rfl) rfl (fun ls hl => ?_)
        refine lv_goto (tgt := 2) hx hb dX0_lowestUnused_21 rfl ?_
        exact ih _ _ hf (lv_sub hl [1, 0] rfl)
      · have hf := ite_t hf hc
        refine lv_iload_n hx hb dX0_lowestUnused_16 rfl (lv_at hl 1 rfl) ?_
        exact s_iretR E hrt hlocks hf dX0_lowestUnused_17
set_option maxRecDepth 100000 in
set_option maxHeartbeats 4000000 in
theorem mX0_lowestUnused (l : Launch) (K : Nat) (D : va_G) (G : Nat → ClassId) (ad : Nat → Nat) (r : sR) (v : sV) (n : Nat) (x : Int64 × UInt64) (hsh : sSh r) (hn : 172 ≤ n) (cq : Nat) (bq : Nat) (hcb : okC cq bq) : sMR l yX0_lowestUnused (.code yX0_lowestUnused cX0_lowestUnused 2 (some .int) :: wsL_law) rmX0_lowestUnused D G ad r v n x [.ref (ad cq)] (fX0_lowestUnused K cq bq v) := by
  intro res hf
  refine Met.ofW (cc := cX0_lowestUnused) (maxL := 2) (ret := (some .int)) (by decide) rfl ?_
  intro p e s m args below meth c s₁ B hml hv
  obtain ⟨rfl, hU, hP⟩ := hv
  have hx := B.exec
  have hb := B.bytes
  have hrt := B.returns
  have hts : ∀ w ∈ wsL_law, w.before _ s = true := fun w hw => atoms_spec (ws := .code yX0_lowestUnused cX0_lowestUnused 2 (some .int) :: wsL_law) B.pre w (List.mem_cons_of_mem _ hw)
  have hlocks := B.notSynchronized
  have E : CallFix p m c cX0_lowestUnused 2 s ([.ref (ad cq)] : List Value).toArray wsL_law RX0 := ⟨hx, hb, hml, findClass_of_methodNamed B.named, hts⟩
  have hl := lv_entry ([.ref (ad cq)]) (n := 2) (Nat.le_of_ble_eq_true rfl)
  rw [lg_entry_eq]
  generalize (lg_sl ([.ref (ad cq)]) ++ List.replicate (2 - (lg_sl ([.ref (ad cq)])).length) Slot.unset).toArray = ls at hl ⊢
  have hl : lv_has ls 2 [(0, .ref (ad cq))] := hl
  have hf := (fX0_lowestUnused.eq_1 ..).symm.trans hf
  refine lv_iconst (v := 0) hx hb dX0_lowestUnused_0 rfl ?_
  refine lv_istore_n (lv' := [(1, .int 0), (0, .ref (ad cq))]) hx hb dX0_lowestUnused_1 rfl hl (Nat.le_of_ble_eq_true rfl) rfl (fun ls hl => ?_)
  exact lX0_lowestUnused_2 E hlocks hrt hU hsh hn hcb hP _ _ _ hf (lv_sub hl [1, 0] rfl)
abbrev rmX0_goalOn : Room := { frames := 0, cells := 0, slots := 0, locals := 0 }
set_option maxRecDepth 100000 in
set_option maxHeartbeats 4000000 in
theorem lX0_goalOn_2 {K : Nat} {cq : Nat} {bq : Nat} {x1 : Int32} {res : Int32} (E : CallFix p m c cX0_goalOn 3 s args wsL_law RX0) (hlocks : meth.locks = false) (hrt : meth.sig.returnType = (some .int)) (hU : sU D G s) (hsh : sSh r) (hn : 172 ≤ n) (hcb : okC cq bq) {v : sV} (hP : va_P D vwCl (sWl G ad r v n x) s.heap) :
    ∀ (k : Nat) (x2 : Int32) (ls : Array Slot), fx1 (gX0_goalOn_2 K cq bq x1 v) k x2 = some res → lv_has ls 3 [(0, .ref (ad cq)), (1, .int x1), (2, .int x2)] → W p l e rmX0_goalOn s m args below meth c s.heap [] 0 0 (MQ below (vp_Si (fun q => q = res)) args s 0 0 (fun _ => False)) (F0 m 2 ls []) := by
  have hx := E.1
  have hb := E.2.1
  have hts := E.2.2.2.2
  intro k
  induction k with
  | zero =>
    intro x2 ls hf hl
    exact fx1_z hf
  | succ k ih =>
    intro x2 ls hf hl
    have hf := (gX0_goalOn_2.eq_1 ..).symm.trans hf
    refine lv_iload_n hx hb dX0_goalOn_2 rfl (lv_at hl 1 rfl) ?_
    refine lv_iconst (v := (-1)) hx hb dX0_goalOn_3 rfl ?_
    refine lv_icmp_eq (tgt := 33) hx hb dX0_goalOn_4 rfl (fun hc => ?_) (fun hc => ?_)
    · have hf := ite_t hf hc
      refine lv_iconst (v := (-1)) hx hb dX0_goalOn_33 rfl ?_
      exact s_iretR E hrt hlocks hf dX0_goalOn_34
    · have hf := ite_f hf hc
      refine lv_iload_n hx hb dX0_goalOn_7 rfl (lv_at hl 2 rfl) ?_
      refine lv_iconst (v := 4) hx hb dX0_goalOn_8 rfl ?_
      refine lv_icmp_ge (tgt := 33) hx hb dX0_goalOn_9 rfl (fun hc => ?_) (fun hc => ?_)
      · have hf := ite_t hf hc
        refine lv_iconst (v := (-1)) hx hb dX0_goalOn_33 rfl ?_
        exact s_iretR E hrt hlocks hf dX0_goalOn_34
      · have hf := ite_f hf hc
        refine lv_aload_n hx hb dX0_goalOn_12 rfl (lv_at hl 0 rfl) ?_
        refine s_getR (k := 0) (t := bq) E hU hP sc2 (okC_lt hsh hcb hn) (okC_k hcb) inlX0 (Nat.le_of_ble_eq_true rfl) rfl rfl wkX0_9 (hsh.1 _ _ _ (okC_r0 hcb)) dX0_goalOn_13 ?_
        refine s_getR (k := 2) (t := (bq + 3)) E hU hP sc7 (okS_lt0 hsh (okC_S hcb) hn) (okS_k hsh (okC_S hcb)) inlX5 (Nat.le_of_ble_eq_true rfl) rfl rfl wkX0_29 (okS_r hsh (okC_S hcb) 2 rfl) dX0_goalOn_16 ?_
        refine lv_iload_n hx hb dX0_goalOn_19 rfl (lv_at hl 2 rfl) ?_
        refine s_iald E hU hP (okS_lt hsh (okC_S hcb) hn 3 rfl) (okS_kj hsh (okC_S hcb) 3 _ rfl) dX0_goalOn_20 hf (fun y1 hf => ?_)
        refine lv_iload_n hx hb dX0_goalOn_21 rfl (lv_at hl 1 rfl) ?_
        refine lv_icmp_ne (tgt := 27) hx hb dX0_goalOn_22 rfl (fun hc => ?_) (fun hc => ?_)
        · have hf := ite_f hf hc
          obtain ⟨z2, ez9, hf⟩ := nm_x hf
          refine lv_iinc (v := z2) (lv' := [(2, .int z2), (0, .ref (ad cq)), (1, .int x1)]) hx hb dX0_goalOn_27 hl (k := 2) rfl (by rw [ez9]; rfl) (Nat.le_of_ble_eq_true rfl) rfl (fun ls hl => ?_)
          refine lv_goto (tgt := 2) hx hb dX0_goalOn_30 rfl ?_
          exact ih _ _ hf (lv_sub hl [1, 2, 0] rfl)
        · have hf := ite_t hf hc
          refine lv_iload_n hx hb dX0_goalOn_25 rfl (lv_at hl 2 rfl) ?_
          exact s_iretR E hrt hlocks hf dX0_goalOn_26
set_option maxRecDepth 100000 in
set_option maxHeartbeats 4000000 in
theorem mX0_goalOn (l : Launch) (K : Nat) (D : va_G) (G : Nat → ClassId) (ad : Nat → Nat) (r : sR) (v : sV) (n : Nat) (x : Int64 × UInt64) (hsh : sSh r) (hn : 172 ≤ n) (cq : Nat) (bq : Nat) (hcb : okC cq bq) (x1 : Int32) : sMR l yX0_goalOn (.code yX0_goalOn cX0_goalOn 3 (some .int) :: wsL_law) rmX0_goalOn D G ad r v n x [.ref (ad cq), .int x1] (fX0_goalOn K cq bq x1 v) := by
  intro res hf
  refine Met.ofW (cc := cX0_goalOn) (maxL := 3) (ret := (some .int)) (by decide) rfl ?_
  intro p e s m args below meth c s₁ B hml hv
  obtain ⟨rfl, hU, hP⟩ := hv
  have hx := B.exec
  have hb := B.bytes
  have hrt := B.returns
  have hts : ∀ w ∈ wsL_law, w.before _ s = true := fun w hw => atoms_spec (ws := .code yX0_goalOn cX0_goalOn 3 (some .int) :: wsL_law) B.pre w (List.mem_cons_of_mem _ hw)
  have hlocks := B.notSynchronized
  have E : CallFix p m c cX0_goalOn 3 s ([.ref (ad cq), .int x1] : List Value).toArray wsL_law RX0 := ⟨hx, hb, hml, findClass_of_methodNamed B.named, hts⟩
  have hl := lv_entry ([.ref (ad cq), .int x1]) (n := 3) (Nat.le_of_ble_eq_true rfl)
  rw [lg_entry_eq]
  generalize (lg_sl ([.ref (ad cq), .int x1]) ++ List.replicate (3 - (lg_sl ([.ref (ad cq), .int x1])).length) Slot.unset).toArray = ls at hl ⊢
  have hl : lv_has ls 3 [(0, .ref (ad cq)), (1, .int x1)] := hl
  have hf := (fX0_goalOn.eq_1 ..).symm.trans hf
  refine lv_iconst (v := 0) hx hb dX0_goalOn_0 rfl ?_
  refine lv_istore_n (lv' := [(2, .int 0), (0, .ref (ad cq)), (1, .int x1)]) hx hb dX0_goalOn_1 rfl hl (Nat.le_of_ble_eq_true rfl) rfl (fun ls hl => ?_)
  exact lX0_goalOn_2 E hlocks hrt hU hsh hn hcb hP _ _ _ hf (lv_sub hl [1, 2, 0] rfl)
abbrev rmX0_isInUse : Room := { frames := 1, cells := 0, slots := 0, locals := 22 }
set_option maxRecDepth 100000 in
set_option maxHeartbeats 4000000 in
theorem mX0_isInUse (l : Launch) (K : Nat) (D : va_G) (G : Nat → ClassId) (ad : Nat → Nat) (r : sR) (v : sV) (n : Nat) (x : Int64 × UInt64) (hsh : sSh r) (hn : 172 ≤ n) (cq : Nat) (bq : Nat) (hcb : okC cq bq) (x1 : Int32) : sMR l yX0_isInUse (.code yX0_isInUse cX0_isInUse 2 (some .boolean) :: wsL_law) rmX0_isInUse D G ad r v n x [.ref (ad cq), .int x1] (fX0_isInUse K cq bq x1 v) := by
  intro res hf
  refine Met.ofW (cc := cX0_isInUse) (maxL := 2) (ret := (some .boolean)) (by decide) rfl ?_
  intro p e s m args below meth c s₁ B hml hv
  obtain ⟨rfl, hU, hP⟩ := hv
  have hx := B.exec
  have hb := B.bytes
  have hrt := B.returns
  have hts : ∀ w ∈ wsL_law, w.before _ s = true := fun w hw => atoms_spec (ws := .code yX0_isInUse cX0_isInUse 2 (some .boolean) :: wsL_law) B.pre w (List.mem_cons_of_mem _ hw)
  have hlocks := B.notSynchronized
  have E : CallFix p m c cX0_isInUse 2 s ([.ref (ad cq), .int x1] : List Value).toArray wsL_law RX0 := ⟨hx, hb, hml, findClass_of_methodNamed B.named, hts⟩
  have hl := lv_entry ([.ref (ad cq), .int x1]) (n := 2) (Nat.le_of_ble_eq_true rfl)
  rw [lg_entry_eq]
  generalize (lg_sl ([.ref (ad cq), .int x1]) ++ List.replicate (2 - (lg_sl ([.ref (ad cq), .int x1])).length) Slot.unset).toArray = ls at hl ⊢
  have hl : lv_has ls 2 [(0, .ref (ad cq)), (1, .int x1)] := hl
  have hf := (fX0_isInUse.eq_1 ..).symm.trans hf
  refine lv_aload_n hx hb dX0_isInUse_0 rfl (lv_at hl 0 rfl) ?_
  refine lv_iload_n hx hb dX0_isInUse_1 rfl (lv_at hl 1 rfl) ?_
  refine sc_R hf (rV_R (As := [.int x1]) (rest := []) E hU hP sc2 (okC_lt hsh hcb hn) (okC_k hcb) (mX0_agentOn l K D G ad r _ n x hsh hn cq bq hcb x1) (cwGV 1 okX0_agentOn wmX0_32 hts rfl rfl ⟨Nat.le_of_ble_eq_true rfl, Nat.le_of_ble_eq_true rfl⟩) rfl hl.1 (Nat.le_of_ble_eq_true rfl) dX0_isInUse_2 ⟨Nat.zero_le _, Nat.zero_le _⟩ rfl) (fun y1 hf => ?_)
  refine lv_iconst (v := (-1)) hx hb dX0_isInUse_5 rfl ?_
  refine lv_icmp_ne (tgt := 18) hx hb dX0_isInUse_6 rfl (fun hc => ?_) (fun hc => ?_)
  · have hf := ite_f hf hc
    refine lv_iconst (v := 1) hx hb dX0_isInUse_18 rfl ?_
    refine lv_goto (tgt := 23) hx hb dX0_isInUse_19 rfl ?_
    exact s_zretR E hrt hlocks rfl hf dX0_isInUse_23
  · have hf := ite_t hf hc
    refine lv_aload_n hx hb dX0_isInUse_9 rfl (lv_at hl 0 rfl) ?_
    refine lv_iload_n hx hb dX0_isInUse_10 rfl (lv_at hl 1 rfl) ?_
    refine sc_R hf (rV_R (As := [.int x1]) (rest := []) E hU hP sc2 (okC_lt hsh hcb hn) (okC_k hcb) (mX0_goalOn l K D G ad r _ n x hsh hn cq bq hcb x1) (cwGV 1 okX0_goalOn wmX0_36 hts rfl rfl ⟨Nat.le_of_ble_eq_true rfl, Nat.le_of_ble_eq_true rfl⟩) rfl hl.1 (Nat.le_of_ble_eq_true rfl) dX0_isInUse_11 ⟨Nat.zero_le _, Nat.zero_le _⟩ rfl) (fun y2 hf => ?_)
    refine lv_iconst (v := (-1)) hx hb dX0_isInUse_14 rfl ?_
    refine lv_icmp_eq (tgt := 22) hx hb dX0_isInUse_15 rfl (fun hc => ?_) (fun hc => ?_)
    · have hf := ite_t hf hc
      refine lv_iconst (v := 0) hx hb dX0_isInUse_22 rfl ?_
      exact s_zretR E hrt hlocks rfl hf dX0_isInUse_23
    · have hf := ite_f hf hc
      refine lv_iconst (v := 1) hx hb dX0_isInUse_18 rfl ?_
      refine lv_goto (tgt := 23) hx hb dX0_isInUse_19 rfl ?_
      exact s_zretR E hrt hlocks rfl hf dX0_isInUse_23
abbrev rmX0_isOpen : Room := { frames := 0, cells := 0, slots := 0, locals := 0 }
set_option maxRecDepth 100000 in
set_option maxHeartbeats 4000000 in
theorem mX0_isOpen (l : Launch) (D : va_G) (G : Nat → ClassId) (ad : Nat → Nat) (r : sR) (v : sV) (n : Nat) (x : Int64 × UInt64) (hsh : sSh r) (hn : 172 ≤ n) (cq : Nat) (bq : Nat) (hcb : okC cq bq) (x1 : Int32) : sMR l yX0_isOpen (.code yX0_isOpen cX0_isOpen 2 (some .boolean) :: wsL_law) rmX0_isOpen D G ad r v n x [.ref (ad cq), .int x1] (fX0_isOpen cq bq x1 v) := by
  intro res hf
  refine Met.ofW (cc := cX0_isOpen) (maxL := 2) (ret := (some .boolean)) (by decide) rfl ?_
  intro p e s m args below meth c s₁ B hml hv
  obtain ⟨rfl, hU, hP⟩ := hv
  have hx := B.exec
  have hb := B.bytes
  have hrt := B.returns
  have hts : ∀ w ∈ wsL_law, w.before _ s = true := fun w hw => atoms_spec (ws := .code yX0_isOpen cX0_isOpen 2 (some .boolean) :: wsL_law) B.pre w (List.mem_cons_of_mem _ hw)
  have hlocks := B.notSynchronized
  have E : CallFix p m c cX0_isOpen 2 s ([.ref (ad cq), .int x1] : List Value).toArray wsL_law RX0 := ⟨hx, hb, hml, findClass_of_methodNamed B.named, hts⟩
  have hl := lv_entry ([.ref (ad cq), .int x1]) (n := 2) (Nat.le_of_ble_eq_true rfl)
  rw [lg_entry_eq]
  generalize (lg_sl ([.ref (ad cq), .int x1]) ++ List.replicate (2 - (lg_sl ([.ref (ad cq), .int x1])).length) Slot.unset).toArray = ls at hl ⊢
  have hl : lv_has ls 2 [(0, .ref (ad cq)), (1, .int x1)] := hl
  have hf := (fX0_isOpen.eq_1 ..).symm.trans hf
  refine lv_iload_n hx hb dX0_isOpen_0 rfl (lv_at hl 1 rfl) ?_
  refine lv_if_lt (tgt := 27) hx hb dX0_isOpen_1 rfl (fun hc => ?_) (fun hc => ?_)
  · have hf := ite_t hf hc
    refine lv_iconst (v := 0) hx hb dX0_isOpen_27 rfl ?_
    exact s_zretR E hrt hlocks rfl hf dX0_isOpen_28
  · have hf := ite_f hf hc
    refine lv_iload_n hx hb dX0_isOpen_4 rfl (lv_at hl 1 rfl) ?_
    refine lv_sipush (v := 140) hx hb dX0_isOpen_5 rfl ?_
    refine lv_icmp_ge (tgt := 27) hx hb dX0_isOpen_8 rfl (fun hc => ?_) (fun hc => ?_)
    · have hf := ite_t hf hc
      refine lv_iconst (v := 0) hx hb dX0_isOpen_27 rfl ?_
      exact s_zretR E hrt hlocks rfl hf dX0_isOpen_28
    · have hf := ite_f hf hc
      refine lv_aload_n hx hb dX0_isOpen_11 rfl (lv_at hl 0 rfl) ?_
      refine s_getR (k := 0) (t := bq) E hU hP sc2 (okC_lt hsh hcb hn) (okC_k hcb) inlX0 (Nat.le_of_ble_eq_true rfl) rfl rfl wkX0_9 (hsh.1 _ _ _ (okC_r0 hcb)) dX0_isOpen_12 ?_
      refine s_getR (k := 0) (t := (bq + 1)) E hU hP sc7 (okS_lt0 hsh (okC_S hcb) hn) (okS_k hsh (okC_S hcb)) inlX5 (Nat.le_of_ble_eq_true rfl) rfl rfl wkX0_42 (okS_r hsh (okC_S hcb) 0 rfl) dX0_isOpen_15 ?_
      refine lv_iload_n hx hb dX0_isOpen_18 rfl (lv_at hl 1 rfl) ?_
      refine s_iald E hU hP (okS_lt hsh (okC_S hcb) hn 1 rfl) (okS_kj hsh (okC_S hcb) 1 _ rfl) dX0_isOpen_19 hf (fun y1 hf => ?_)
      refine lv_if_eq (tgt := 27) hx hb dX0_isOpen_20 rfl (fun hc => ?_) (fun hc => ?_)
      · have hf := ite_t hf hc
        refine lv_iconst (v := 0) hx hb dX0_isOpen_27 rfl ?_
        exact s_zretR E hrt hlocks rfl hf dX0_isOpen_28
      · have hf := ite_f hf hc
        refine lv_iconst (v := 1) hx hb dX0_isOpen_23 rfl ?_
        refine lv_goto (tgt := 28) hx hb dX0_isOpen_24 rfl ?_
        exact s_zretR E hrt hlocks rfl hf dX0_isOpen_28
abbrev rmX0_isFree : Room := { frames := 1, cells := 0, slots := 0, locals := 22 }
set_option maxRecDepth 100000 in
set_option maxHeartbeats 4000000 in
theorem mX0_isFree (l : Launch) (K : Nat) (D : va_G) (G : Nat → ClassId) (ad : Nat → Nat) (r : sR) (v : sV) (n : Nat) (x : Int64 × UInt64) (hsh : sSh r) (hn : 172 ≤ n) (cq : Nat) (bq : Nat) (hcb : okC cq bq) (x1 : Int32) : sMR l yX0_isFree (.code yX0_isFree cX0_isFree 2 (some .boolean) :: wsL_law) rmX0_isFree D G ad r v n x [.ref (ad cq), .int x1] (fX0_isFree K cq bq x1 v) := by
  intro res hf
  refine Met.ofW (cc := cX0_isFree) (maxL := 2) (ret := (some .boolean)) (by decide) rfl ?_
  intro p e s m args below meth c s₁ B hml hv
  obtain ⟨rfl, hU, hP⟩ := hv
  have hx := B.exec
  have hb := B.bytes
  have hrt := B.returns
  have hts : ∀ w ∈ wsL_law, w.before _ s = true := fun w hw => atoms_spec (ws := .code yX0_isFree cX0_isFree 2 (some .boolean) :: wsL_law) B.pre w (List.mem_cons_of_mem _ hw)
  have hlocks := B.notSynchronized
  have E : CallFix p m c cX0_isFree 2 s ([.ref (ad cq), .int x1] : List Value).toArray wsL_law RX0 := ⟨hx, hb, hml, findClass_of_methodNamed B.named, hts⟩
  have hl := lv_entry ([.ref (ad cq), .int x1]) (n := 2) (Nat.le_of_ble_eq_true rfl)
  rw [lg_entry_eq]
  generalize (lg_sl ([.ref (ad cq), .int x1]) ++ List.replicate (2 - (lg_sl ([.ref (ad cq), .int x1])).length) Slot.unset).toArray = ls at hl ⊢
  have hl : lv_has ls 2 [(0, .ref (ad cq)), (1, .int x1)] := hl
  have hf := (fX0_isFree.eq_1 ..).symm.trans hf
  refine lv_aload_n hx hb dX0_isFree_0 rfl (lv_at hl 0 rfl) ?_
  refine lv_iload_n hx hb dX0_isFree_1 rfl (lv_at hl 1 rfl) ?_
  refine sc_R hf (rV_R (As := [.int x1]) (rest := []) E hU hP sc2 (okC_lt hsh hcb hn) (okC_k hcb) (mX0_isOpen l D G ad r _ n x hsh hn cq bq hcb x1) (cwGV 1 okX0_isOpen wmX0_39 hts rfl rfl ⟨Nat.le_of_ble_eq_true rfl, Nat.le_of_ble_eq_true rfl⟩) rfl hl.1 (Nat.le_of_ble_eq_true rfl) dX0_isFree_2 ⟨Nat.zero_le _, Nat.zero_le _⟩ rfl) (fun y1 hf => ?_)
  refine lv_if_eq (tgt := 21) hx hb dX0_isFree_5 rfl (fun hc => ?_) (fun hc => ?_)
  · have hf := ite_t hf hc
    refine lv_iconst (v := 0) hx hb dX0_isFree_21 rfl ?_
    exact s_zretR E hrt hlocks rfl hf dX0_isFree_22
  · have hf := ite_f hf hc
    refine lv_aload_n hx hb dX0_isFree_8 rfl (lv_at hl 0 rfl) ?_
    refine lv_iload_n hx hb dX0_isFree_9 rfl (lv_at hl 1 rfl) ?_
    refine sc_R hf (rV_R (As := [.int x1]) (rest := []) E hU hP sc2 (okC_lt hsh hcb hn) (okC_k hcb) (mX0_agentOn l K D G ad r _ n x hsh hn cq bq hcb x1) (cwGV 1 okX0_agentOn wmX0_32 hts rfl rfl ⟨Nat.le_of_ble_eq_true rfl, Nat.le_of_ble_eq_true rfl⟩) rfl hl.1 (Nat.le_of_ble_eq_true rfl) dX0_isFree_10 ⟨Nat.zero_le _, Nat.zero_le _⟩ rfl) (fun y2 hf => ?_)
    refine lv_iconst (v := (-1)) hx hb dX0_isFree_13 rfl ?_
    refine lv_icmp_ne (tgt := 21) hx hb dX0_isFree_14 rfl (fun hc => ?_) (fun hc => ?_)
    · have hf := ite_f hf hc
      refine lv_iconst (v := 0) hx hb dX0_isFree_21 rfl ?_
      exact s_zretR E hrt hlocks rfl hf dX0_isFree_22
    · have hf := ite_t hf hc
      refine lv_iconst (v := 1) hx hb dX0_isFree_17 rfl ?_
      refine lv_goto (tgt := 22) hx hb dX0_isFree_18 rfl ?_
      exact s_zretR E hrt hlocks rfl hf dX0_isFree_22
abbrev rmX0_isMember : Room := { frames := 0, cells := 0, slots := 0, locals := 0 }
set_option maxRecDepth 100000 in
set_option maxHeartbeats 4000000 in
theorem mX0_isMember (l : Launch) (D : va_G) (G : Nat → ClassId) (ad : Nat → Nat) (r : sR) (v : sV) (n : Nat) (x : Int64 × UInt64) (hsh : sSh r) (hn : 172 ≤ n) (cq : Nat) (bq : Nat) (hcb : okC cq bq) (x1 : Int32) : sMR l yX0_isMember (.code yX0_isMember cX0_isMember 2 (some .boolean) :: wsL_law) rmX0_isMember D G ad r v n x [.ref (ad cq), .int x1] (fX0_isMember cq bq x1 v) := by
  intro res hf
  refine Met.ofW (cc := cX0_isMember) (maxL := 2) (ret := (some .boolean)) (by decide) rfl ?_
  intro p e s m args below meth c s₁ B hml hv
  obtain ⟨rfl, hU, hP⟩ := hv
  have hx := B.exec
  have hb := B.bytes
  have hrt := B.returns
  have hts : ∀ w ∈ wsL_law, w.before _ s = true := fun w hw => atoms_spec (ws := .code yX0_isMember cX0_isMember 2 (some .boolean) :: wsL_law) B.pre w (List.mem_cons_of_mem _ hw)
  have hlocks := B.notSynchronized
  have E : CallFix p m c cX0_isMember 2 s ([.ref (ad cq), .int x1] : List Value).toArray wsL_law RX0 := ⟨hx, hb, hml, findClass_of_methodNamed B.named, hts⟩
  have hl := lv_entry ([.ref (ad cq), .int x1]) (n := 2) (Nat.le_of_ble_eq_true rfl)
  rw [lg_entry_eq]
  generalize (lg_sl ([.ref (ad cq), .int x1]) ++ List.replicate (2 - (lg_sl ([.ref (ad cq), .int x1])).length) Slot.unset).toArray = ls at hl ⊢
  have hl : lv_has ls 2 [(0, .ref (ad cq)), (1, .int x1)] := hl
  have hf := (fX0_isMember.eq_1 ..).symm.trans hf
  refine lv_aload_n hx hb dX0_isMember_0 rfl (lv_at hl 0 rfl) ?_
  refine s_getR (k := 0) (t := bq) E hU hP sc2 (okC_lt hsh hcb hn) (okC_k hcb) inlX0 (Nat.le_of_ble_eq_true rfl) rfl rfl wkX0_9 (hsh.1 _ _ _ (okC_r0 hcb)) dX0_isMember_1 ?_
  refine s_getR (k := 8) (t := (bq + 9)) E hU hP sc7 (okS_lt0 hsh (okC_S hcb) hn) (okS_k hsh (okC_S hcb)) inlX5 (Nat.le_of_ble_eq_true rfl) rfl rfl wkX0_45 (okS_r hsh (okC_S hcb) 8 rfl) dX0_isMember_4 ?_
  refine lv_iload_n hx hb dX0_isMember_7 rfl (lv_at hl 1 rfl) ?_
  refine s_iald E hU hP (okS_lt hsh (okC_S hcb) hn 9 rfl) (okS_kj hsh (okC_S hcb) 9 _ rfl) dX0_isMember_8 hf (fun y1 hf => ?_)
  refine lv_iconst (v := (-1)) hx hb dX0_isMember_9 rfl ?_
  refine lv_icmp_eq (tgt := 17) hx hb dX0_isMember_10 rfl (fun hc => ?_) (fun hc => ?_)
  · have hf := ite_t hf hc
    refine lv_iconst (v := 0) hx hb dX0_isMember_17 rfl ?_
    exact s_zretR E hrt hlocks rfl hf dX0_isMember_18
  · have hf := ite_f hf hc
    refine lv_iconst (v := 1) hx hb dX0_isMember_13 rfl ?_
    refine lv_goto (tgt := 18) hx hb dX0_isMember_14 rfl ?_
    exact s_zretR E hrt hlocks rfl hf dX0_isMember_18
abbrev rmX0_membersOf : Room := { frames := 0, cells := 0, slots := 0, locals := 0 }
set_option maxRecDepth 100000 in
set_option maxHeartbeats 4000000 in
theorem lX0_membersOf_4 {K : Nat} {cq : Nat} {bq : Nat} {x1 : Int32} {res : Int32} (E : CallFix p m c cX0_membersOf 4 s args wsL_law RX0) (hlocks : meth.locks = false) (hrt : meth.sig.returnType = (some .int)) (hU : sU D G s) (hsh : sSh r) (hn : 172 ≤ n) (hcb : okC cq bq) {v : sV} (hP : va_P D vwCl (sWl G ad r v n x) s.heap) :
    ∀ (k : Nat) (x2 : Int32) (x3 : Int32) (ls : Array Slot), fx2 (gX0_membersOf_4 K cq bq x1 v) k x2 x3 = some res → lv_has ls 4 [(0, .ref (ad cq)), (1, .int x1), (2, .int x2), (3, .int x3)] → W p l e rmX0_membersOf s m args below meth c s.heap [] 0 0 (MQ below (vp_Si (fun q => q = res)) args s 0 0 (fun _ => False)) (F0 m 4 ls []) := by
  have hx := E.1
  have hb := E.2.1
  have hts := E.2.2.2.2
  intro k
  induction k with
  | zero =>
    intro x2 x3 ls hf hl
    exact fx2_z hf
  | succ k ih =>
    intro x2 x3 ls hf hl
    have hf := (gX0_membersOf_4.eq_1 ..).symm.trans hf
    refine lv_iload_n hx hb dX0_membersOf_4 rfl (lv_at hl 3 rfl) ?_
    refine lv_bipush (v := 16) hx hb dX0_membersOf_5 rfl ?_
    refine lv_icmp_ge (tgt := 35) hx hb dX0_membersOf_7 rfl (fun hc => ?_) (fun hc => ?_)
    · have hf := ite_t hf hc
      refine lv_iload_n hx hb dX0_membersOf_35 rfl (lv_at hl 2 rfl) ?_
      exact s_iretR E hrt hlocks hf dX0_membersOf_36
    · have hf := ite_f hf hc
      refine lv_aload_n hx hb dX0_membersOf_10 rfl (lv_at hl 0 rfl) ?_
      refine s_getR (k := 0) (t := bq) E hU hP sc2 (okC_lt hsh hcb hn) (okC_k hcb) inlX0 (Nat.le_of_ble_eq_true rfl) rfl rfl wkX0_9 (hsh.1 _ _ _ (okC_r0 hcb)) dX0_membersOf_11 ?_
      refine s_getR (k := 8) (t := (bq + 9)) E hU hP sc7 (okS_lt0 hsh (okC_S hcb) hn) (okS_k hsh (okC_S hcb)) inlX5 (Nat.le_of_ble_eq_true rfl) rfl rfl wkX0_45 (okS_r hsh (okC_S hcb) 8 rfl) dX0_membersOf_14 ?_
      refine lv_iload_n hx hb dX0_membersOf_17 rfl (lv_at hl 3 rfl) ?_
      refine s_iald E hU hP (okS_lt hsh (okC_S hcb) hn 9 rfl) (okS_kj hsh (okC_S hcb) 9 _ rfl) dX0_membersOf_18 hf (fun y1 hf => ?_)
      refine lv_iload_n hx hb dX0_membersOf_19 rfl (lv_at hl 1 rfl) ?_
      refine lv_icmp_ne (tgt := 29) hx hb dX0_membersOf_20 rfl (fun hc => ?_) (fun hc => ?_)
      · have hf := ite_f hf hc
        obtain ⟨z2, ez9, hf⟩ := nm_x hf
        refine lv_iinc (v := z2) (lv' := [(3, .int z2), (0, .ref (ad cq)), (1, .int x1), (2, .int x2)]) hx hb dX0_membersOf_29 hl (k := 3) rfl (by rw [ez9]; rfl) (Nat.le_of_ble_eq_true rfl) rfl (fun ls hl => ?_)
        refine lv_goto (tgt := 4) hx hb dX0_membersOf_32 rfl ?_
        exact ih _ _ _ hf (lv_sub hl [1, 2, 3, 0] rfl)
      · have hf := ite_t hf hc
        refine lv_iload_n hx hb dX0_membersOf_23 rfl (lv_at hl 2 rfl) ?_
        refine lv_iconst (v := 1) hx hb dX0_membersOf_24 rfl ?_
        refine lv_iload_n hx hb dX0_membersOf_25 rfl (lv_at hl 3 rfl) ?_
        refine lv_ishl hx hb dX0_membersOf_26 ?_
        refine lv_ior hx hb dX0_membersOf_27 ?_
        refine s_nm hf (fun z3 hf => ?_)
        refine lv_istore_n (lv' := [(2, .int z3), (0, .ref (ad cq)), (1, .int x1), (3, .int x3)]) hx hb dX0_membersOf_28 rfl hl (Nat.le_of_ble_eq_true rfl) rfl (fun ls hl => ?_)
        obtain ⟨z4, ez9, hf⟩ := nm_x hf
        refine lv_iinc (v := z4) (lv' := [(3, .int z4), (2, .int z3), (0, .ref (ad cq)), (1, .int x1)]) hx hb dX0_membersOf_29 hl (k := 3) rfl (by rw [ez9]; rfl) (Nat.le_of_ble_eq_true rfl) rfl (fun ls hl => ?_)
        refine lv_goto (tgt := 4) hx hb dX0_membersOf_32 rfl ?_
        exact ih _ _ _ hf (lv_sub hl [2, 3, 1, 0] rfl)
set_option maxRecDepth 100000 in
set_option maxHeartbeats 4000000 in
theorem mX0_membersOf (l : Launch) (K : Nat) (D : va_G) (G : Nat → ClassId) (ad : Nat → Nat) (r : sR) (v : sV) (n : Nat) (x : Int64 × UInt64) (hsh : sSh r) (hn : 172 ≤ n) (cq : Nat) (bq : Nat) (hcb : okC cq bq) (x1 : Int32) : sMR l yX0_membersOf (.code yX0_membersOf cX0_membersOf 4 (some .int) :: wsL_law) rmX0_membersOf D G ad r v n x [.ref (ad cq), .int x1] (fX0_membersOf K cq bq x1 v) := by
  intro res hf
  refine Met.ofW (cc := cX0_membersOf) (maxL := 4) (ret := (some .int)) (by decide) rfl ?_
  intro p e s m args below meth c s₁ B hml hv
  obtain ⟨rfl, hU, hP⟩ := hv
  have hx := B.exec
  have hb := B.bytes
  have hrt := B.returns
  have hts : ∀ w ∈ wsL_law, w.before _ s = true := fun w hw => atoms_spec (ws := .code yX0_membersOf cX0_membersOf 4 (some .int) :: wsL_law) B.pre w (List.mem_cons_of_mem _ hw)
  have hlocks := B.notSynchronized
  have E : CallFix p m c cX0_membersOf 4 s ([.ref (ad cq), .int x1] : List Value).toArray wsL_law RX0 := ⟨hx, hb, hml, findClass_of_methodNamed B.named, hts⟩
  have hl := lv_entry ([.ref (ad cq), .int x1]) (n := 4) (Nat.le_of_ble_eq_true rfl)
  rw [lg_entry_eq]
  generalize (lg_sl ([.ref (ad cq), .int x1]) ++ List.replicate (4 - (lg_sl ([.ref (ad cq), .int x1])).length) Slot.unset).toArray = ls at hl ⊢
  have hl : lv_has ls 4 [(0, .ref (ad cq)), (1, .int x1)] := hl
  have hf := (fX0_membersOf.eq_1 ..).symm.trans hf
  refine lv_iconst (v := 0) hx hb dX0_membersOf_0 rfl ?_
  refine lv_istore_n (lv' := [(2, .int 0), (0, .ref (ad cq)), (1, .int x1)]) hx hb dX0_membersOf_1 rfl hl (Nat.le_of_ble_eq_true rfl) rfl (fun ls hl => ?_)
  refine lv_iconst (v := 0) hx hb dX0_membersOf_2 rfl ?_
  refine lv_istore_n (lv' := [(3, .int 0), (2, .int 0), (0, .ref (ad cq)), (1, .int x1)]) hx hb dX0_membersOf_3 rfl hl (Nat.le_of_ble_eq_true rfl) rfl (fun ls hl => ?_)
  exact lX0_membersOf_4 E hlocks hrt hU hsh hn hcb hP _ _ _ _ hf (lv_sub hl [2, 3, 1, 0] rfl)
abbrev rmX0_isLeader : Room := { frames := 1, cells := 0, slots := 0, locals := 23 }
set_option maxRecDepth 100000 in
set_option maxHeartbeats 4000000 in
theorem mX0_isLeader (l : Launch) (K : Nat) (D : va_G) (G : Nat → ClassId) (ad : Nat → Nat) (r : sR) (v : sV) (n : Nat) (x : Int64 × UInt64) (hsh : sSh r) (hn : 172 ≤ n) (cq : Nat) (bq : Nat) (hcb : okC cq bq) (x1 : Int32) : sMR l yX0_isLeader (.code yX0_isLeader cX0_isLeader 2 (some .boolean) :: wsL_law) rmX0_isLeader D G ad r v n x [.ref (ad cq), .int x1] (fX0_isLeader K cq bq x1 v) := by
  intro res hf
  refine Met.ofW (cc := cX0_isLeader) (maxL := 2) (ret := (some .boolean)) (by decide) rfl ?_
  intro p e s m args below meth c s₁ B hml hv
  obtain ⟨rfl, hU, hP⟩ := hv
  have hx := B.exec
  have hb := B.bytes
  have hrt := B.returns
  have hts : ∀ w ∈ wsL_law, w.before _ s = true := fun w hw => atoms_spec (ws := .code yX0_isLeader cX0_isLeader 2 (some .boolean) :: wsL_law) B.pre w (List.mem_cons_of_mem _ hw)
  have hlocks := B.notSynchronized
  have E : CallFix p m c cX0_isLeader 2 s ([.ref (ad cq), .int x1] : List Value).toArray wsL_law RX0 := ⟨hx, hb, hml, findClass_of_methodNamed B.named, hts⟩
  have hl := lv_entry ([.ref (ad cq), .int x1]) (n := 2) (Nat.le_of_ble_eq_true rfl)
  rw [lg_entry_eq]
  generalize (lg_sl ([.ref (ad cq), .int x1]) ++ List.replicate (2 - (lg_sl ([.ref (ad cq), .int x1])).length) Slot.unset).toArray = ls at hl ⊢
  have hl : lv_has ls 2 [(0, .ref (ad cq)), (1, .int x1)] := hl
  have hf := (fX0_isLeader.eq_1 ..).symm.trans hf
  refine lv_aload_n hx hb dX0_isLeader_0 rfl (lv_at hl 0 rfl) ?_
  refine lv_iload_n hx hb dX0_isLeader_1 rfl (lv_at hl 1 rfl) ?_
  refine sc_R hf (rV_R (As := [.int x1]) (rest := []) E hU hP sc2 (okC_lt hsh hcb hn) (okC_k hcb) (mX0_membersOf l K D G ad r _ n x hsh hn cq bq hcb x1) (cwGV 1 okX0_membersOf wmX0_48 hts rfl rfl ⟨Nat.le_of_ble_eq_true rfl, Nat.le_of_ble_eq_true rfl⟩) rfl hl.1 (Nat.le_of_ble_eq_true rfl) dX0_isLeader_2 ⟨Nat.zero_le _, Nat.zero_le _⟩ rfl) (fun y1 hf => ?_)
  refine lv_if_eq (tgt := 12) hx hb dX0_isLeader_5 rfl (fun hc => ?_) (fun hc => ?_)
  · have hf := ite_t hf hc
    refine lv_iconst (v := 0) hx hb dX0_isLeader_12 rfl ?_
    exact s_zretR E hrt hlocks rfl hf dX0_isLeader_13
  · have hf := ite_f hf hc
    refine lv_iconst (v := 1) hx hb dX0_isLeader_8 rfl ?_
    refine lv_goto (tgt := 13) hx hb dX0_isLeader_9 rfl ?_
    exact s_zretR E hrt hlocks rfl hf dX0_isLeader_13
abbrev rmX0_slotOf : Room := { frames := 1, cells := 0, slots := 0, locals := 22 }
set_option maxRecDepth 100000 in
set_option maxHeartbeats 4000000 in
theorem mX0_slotOf (l : Launch) (D : va_G) (G : Nat → ClassId) (ad : Nat → Nat) (r : sR) (v : sV) (n : Nat) (x : Int64 × UInt64) (hsh : sSh r) (hn : 172 ≤ n) (cq : Nat) (bq : Nat) (hcb : okC cq bq) (x1 : Int32) (x2 : Int32) : sMR l yX0_slotOf (.code yX0_slotOf cX0_slotOf 7 (some .int) :: wsL_law) rmX0_slotOf D G ad r v n x [.ref (ad cq), .int x1, .int x2] (fX0_slotOf cq bq x1 x2 v) := by
  intro res hf
  refine Met.ofW (cc := cX0_slotOf) (maxL := 7) (ret := (some .int)) (by decide) rfl ?_
  intro p e s m args below meth c s₁ B hml hv
  obtain ⟨rfl, hU, hP⟩ := hv
  have hx := B.exec
  have hb := B.bytes
  have hrt := B.returns
  have hts : ∀ w ∈ wsL_law, w.before _ s = true := fun w hw => atoms_spec (ws := .code yX0_slotOf cX0_slotOf 7 (some .int) :: wsL_law) B.pre w (List.mem_cons_of_mem _ hw)
  have hlocks := B.notSynchronized
  have E : CallFix p m c cX0_slotOf 7 s ([.ref (ad cq), .int x1, .int x2] : List Value).toArray wsL_law RX0 := ⟨hx, hb, hml, findClass_of_methodNamed B.named, hts⟩
  have hl := lv_entry ([.ref (ad cq), .int x1, .int x2]) (n := 7) (Nat.le_of_ble_eq_true rfl)
  rw [lg_entry_eq]
  generalize (lg_sl ([.ref (ad cq), .int x1, .int x2]) ++ List.replicate (7 - (lg_sl ([.ref (ad cq), .int x1, .int x2])).length) Slot.unset).toArray = ls at hl ⊢
  have hl : lv_has ls 7 [(0, .ref (ad cq)), (1, .int x1), (2, .int x2)] := hl
  have hf := (fX0_slotOf.eq_1 ..).symm.trans hf
  refine lv_aload_n hx hb dX0_slotOf_0 rfl (lv_at hl 0 rfl) ?_
  refine s_getR (k := 0) (t := bq) E hU hP sc2 (okC_lt hsh hcb hn) (okC_k hcb) inlX0 (Nat.le_of_ble_eq_true rfl) rfl rfl wkX0_9 (hsh.1 _ _ _ (okC_r0 hcb)) dX0_slotOf_1 ?_
  refine s_getR (k := 9) (t := (bq + 10)) E hU hP sc7 (okS_lt0 hsh (okC_S hcb) hn) (okS_k hsh (okC_S hcb)) inlX5 (Nat.le_of_ble_eq_true rfl) rfl rfl wkX0_58 (okS_r hsh (okC_S hcb) 9 rfl) dX0_slotOf_4 ?_
  refine lv_iload_n hx hb dX0_slotOf_7 rfl (lv_at hl 1 rfl) ?_
  refine s_iald E hU hP (okS_lt hsh (okC_S hcb) hn 10 rfl) (okS_kj hsh (okC_S hcb) 10 _ rfl) dX0_slotOf_8 hf (fun y1 hf => ?_)
  refine lv_istore_n (lv' := [(3, .int y1), (0, .ref (ad cq)), (1, .int x1), (2, .int x2)]) hx hb dX0_slotOf_9 rfl hl (Nat.le_of_ble_eq_true rfl) rfl (fun ls hl => ?_)
  refine lv_aload_n hx hb dX0_slotOf_10 rfl (lv_at hl 1 rfl) ?_
  refine s_getR (k := 0) (t := bq) E hU hP sc2 (okC_lt hsh hcb hn) (okC_k hcb) inlX0 (Nat.le_of_ble_eq_true rfl) rfl rfl wkX0_9 (hsh.1 _ _ _ (okC_r0 hcb)) dX0_slotOf_11 ?_
  refine s_getR (k := 10) (t := (bq + 11)) E hU hP sc7 (okS_lt0 hsh (okC_S hcb) hn) (okS_k hsh (okC_S hcb)) inlX5 (Nat.le_of_ble_eq_true rfl) rfl rfl wkX0_61 (okS_r hsh (okC_S hcb) 10 rfl) dX0_slotOf_14 ?_
  refine lv_iload_n hx hb dX0_slotOf_17 rfl (lv_at hl 2 rfl) ?_
  refine s_iald E hU hP (okS_lt hsh (okC_S hcb) hn 11 rfl) (okS_kj hsh (okC_S hcb) 11 _ rfl) dX0_slotOf_18 hf (fun y2 hf => ?_)
  refine lv_istore (lv' := [(4, .int y2), (3, .int y1), (0, .ref (ad cq)), (1, .int x1), (2, .int x2)]) hx hb dX0_slotOf_19 hl (Nat.le_of_ble_eq_true rfl) rfl (fun ls hl => ?_)
  refine lv_aload_n hx hb dX0_slotOf_21 rfl (lv_at hl 2 rfl) ?_
  refine s_getR (k := 0) (t := bq) E hU hP sc2 (okC_lt hsh hcb hn) (okC_k hcb) inlX0 (Nat.le_of_ble_eq_true rfl) rfl rfl wkX0_9 (hsh.1 _ _ _ (okC_r0 hcb)) dX0_slotOf_22 ?_
  refine s_getR (k := 3) (t := (bq + 4)) E hU hP sc7 (okS_lt0 hsh (okC_S hcb) hn) (okS_k hsh (okC_S hcb)) inlX5 (Nat.le_of_ble_eq_true rfl) rfl rfl wkX0_19 (okS_r hsh (okC_S hcb) 3 rfl) dX0_slotOf_25 ?_
  refine lv_iload_n hx hb dX0_slotOf_28 rfl (lv_at hl 4 rfl) ?_
  refine s_iald E hU hP (okS_lt hsh (okC_S hcb) hn 4 rfl) (okS_kj hsh (okC_S hcb) 4 _ rfl) dX0_slotOf_29 hf (fun y3 hf => ?_)
  refine sc_R hf (rSN_S (As := [.int y3]) (rest := []) E (mX6_columnOf l y3) (cwGN 1 okX6_columnOf (hU.2.1 _ (List.mem_of_getElem? (i := 6) rfl)) hts rfl rfl ⟨Nat.le_of_ble_eq_true rfl, Nat.le_of_ble_eq_true rfl⟩) rfl hl.1 (Nat.le_of_ble_eq_true rfl) dX0_slotOf_30 ⟨Nat.zero_le _, Nat.zero_le _⟩ rfl) (fun y4 hf => ?_)
  refine lv_istore (lv' := [(5, .int y4), (4, .int y2), (3, .int y1), (0, .ref (ad cq)), (1, .int x1), (2, .int x2)]) hx hb dX0_slotOf_33 hl (Nat.le_of_ble_eq_true rfl) rfl (fun ls hl => ?_)
  refine lv_aload_n hx hb dX0_slotOf_35 rfl (lv_at hl 3 rfl) ?_
  refine s_getR (k := 0) (t := bq) E hU hP sc2 (okC_lt hsh hcb hn) (okC_k hcb) inlX0 (Nat.le_of_ble_eq_true rfl) rfl rfl wkX0_9 (hsh.1 _ _ _ (okC_r0 hcb)) dX0_slotOf_36 ?_
  refine s_getR (k := 3) (t := (bq + 4)) E hU hP sc7 (okS_lt0 hsh (okC_S hcb) hn) (okS_k hsh (okC_S hcb)) inlX5 (Nat.le_of_ble_eq_true rfl) rfl rfl wkX0_19 (okS_r hsh (okC_S hcb) 3 rfl) dX0_slotOf_39 ?_
  refine lv_iload_n hx hb dX0_slotOf_42 rfl (lv_at hl 5 rfl) ?_
  refine s_iald E hU hP (okS_lt hsh (okC_S hcb) hn 4 rfl) (okS_kj hsh (okC_S hcb) 4 _ rfl) dX0_slotOf_43 hf (fun y5 hf => ?_)
  refine sc_R hf (rSN_S (As := [.int y5]) (rest := []) E (mX6_rowOf l y5) (cwGN 1 okX6_rowOf (hU.2.1 _ (List.mem_of_getElem? (i := 7) rfl)) hts rfl rfl ⟨Nat.le_of_ble_eq_true rfl, Nat.le_of_ble_eq_true rfl⟩) rfl hl.1 (Nat.le_of_ble_eq_true rfl) dX0_slotOf_44 ⟨Nat.zero_le _, Nat.zero_le _⟩ rfl) (fun y6 hf => ?_)
  refine lv_istore (lv' := [(6, .int y6), (5, .int y4), (4, .int y2), (3, .int y1), (0, .ref (ad cq)), (1, .int x1), (2, .int x2)]) hx hb dX0_slotOf_47 hl (Nat.le_of_ble_eq_true rfl) rfl (fun ls hl => ?_)
  refine lv_aload_n hx hb dX0_slotOf_49 rfl (lv_at hl 4 rfl) ?_
  refine s_getR (k := 0) (t := bq) E hU hP sc2 (okC_lt hsh hcb hn) (okC_k hcb) inlX0 (Nat.le_of_ble_eq_true rfl) rfl rfl wkX0_9 (hsh.1 _ _ _ (okC_r0 hcb)) dX0_slotOf_50 ?_
  refine s_getR (k := 6) (t := (bq + 7)) E hU hP sc7 (okS_lt0 hsh (okC_S hcb) hn) (okS_k hsh (okC_S hcb)) inlX5 (Nat.le_of_ble_eq_true rfl) rfl rfl wkX0_70 (okS_r hsh (okC_S hcb) 6 rfl) dX0_slotOf_53 ?_
  refine lv_iload_n hx hb dX0_slotOf_56 rfl (lv_at hl 6 rfl) ?_
  refine s_iald E hU hP (okS_lt hsh (okC_S hcb) hn 7 rfl) (okS_kj hsh (okC_S hcb) 7 _ rfl) dX0_slotOf_57 hf (fun y7 hf => ?_)
  by_cases hc1 : y7 = 1
  · have hf := ite_t hf hc1
    refine s_tsw (k := 1) (tgt := 84) hx hb dX0_slotOf_58 hc1 (by decide) (by decide) rfl rfl ?_
    refine lv_iload hx hb dX0_slotOf_84 (lv_at hl 1 rfl) ?_
    refine lv_iload hx hb dX0_slotOf_86 (lv_at hl 2 rfl) ?_
    refine lv_isub hx hb dX0_slotOf_88 ?_
    refine lv_iload hx hb dX0_slotOf_89 (lv_at hl 0 rfl) ?_
    refine lv_iload_n hx hb dX0_slotOf_91 rfl (lv_at hl 3 rfl) ?_
    refine lv_iadd hx hb dX0_slotOf_92 ?_
    refine sc_R hf (rSN_S (As := [.int (y4 - y2), .int (y6 + y1)]) (rest := []) E (mX6_cellAt l (y4 - y2) (y6 + y1)) (cwGN 2 okX6_cellAt (hU.2.1 _ (List.mem_of_getElem? (i := 8) rfl)) hts rfl rfl ⟨Nat.le_of_ble_eq_true rfl, Nat.le_of_ble_eq_true rfl⟩) rfl hl.1 (Nat.le_of_ble_eq_true rfl) dX0_slotOf_93 ⟨Nat.zero_le _, Nat.zero_le _⟩ rfl) (fun y8 hf => ?_)
    exact s_iretR E hrt hlocks hf dX0_slotOf_96
  have hf := ite_f hf hc1
  by_cases hc2 : y7 = 2
  · have hf := ite_t hf hc2
    refine s_tsw (k := 2) (tgt := 97) hx hb dX0_slotOf_58 hc2 (by decide) (by decide) rfl rfl ?_
    refine lv_iload hx hb dX0_slotOf_97 (lv_at hl 1 rfl) ?_
    refine lv_iload_n hx hb dX0_slotOf_99 rfl (lv_at hl 3 rfl) ?_
    refine lv_isub hx hb dX0_slotOf_100 ?_
    refine lv_iload hx hb dX0_slotOf_101 (lv_at hl 0 rfl) ?_
    refine lv_iload hx hb dX0_slotOf_103 (lv_at hl 2 rfl) ?_
    refine lv_isub hx hb dX0_slotOf_105 ?_
    refine sc_R hf (rSN_S (As := [.int (y4 - y1), .int (y6 - y2)]) (rest := []) E (mX6_cellAt l (y4 - y1) (y6 - y2)) (cwGN 2 okX6_cellAt (hU.2.1 _ (List.mem_of_getElem? (i := 8) rfl)) hts rfl rfl ⟨Nat.le_of_ble_eq_true rfl, Nat.le_of_ble_eq_true rfl⟩) rfl hl.1 (Nat.le_of_ble_eq_true rfl) dX0_slotOf_106 ⟨Nat.zero_le _, Nat.zero_le _⟩ rfl) (fun y9 hf => ?_)
    exact s_iretR E hrt hlocks hf dX0_slotOf_109
  have hf := ite_f hf hc2
  by_cases hc3 : y7 = 3
  · have hf := ite_t hf hc3
    refine s_tsw (k := 3) (tgt := 110) hx hb dX0_slotOf_58 hc3 (by decide) (by decide) rfl rfl ?_
    refine lv_iload hx hb dX0_slotOf_110 (lv_at hl 1 rfl) ?_
    refine lv_iload hx hb dX0_slotOf_112 (lv_at hl 2 rfl) ?_
    refine lv_iadd hx hb dX0_slotOf_114 ?_
    refine lv_iload hx hb dX0_slotOf_115 (lv_at hl 0 rfl) ?_
    refine lv_iload_n hx hb dX0_slotOf_117 rfl (lv_at hl 3 rfl) ?_
    refine lv_isub hx hb dX0_slotOf_118 ?_
    refine sc_R hf (rSN_S (As := [.int (y4 + y2), .int (y6 - y1)]) (rest := []) E (mX6_cellAt l (y4 + y2) (y6 - y1)) (cwGN 2 okX6_cellAt (hU.2.1 _ (List.mem_of_getElem? (i := 8) rfl)) hts rfl rfl ⟨Nat.le_of_ble_eq_true rfl, Nat.le_of_ble_eq_true rfl⟩) rfl hl.1 (Nat.le_of_ble_eq_true rfl) dX0_slotOf_119 ⟨Nat.zero_le _, Nat.zero_le _⟩ rfl) (fun y10 hf => ?_)
    exact s_iretR E hrt hlocks hf dX0_slotOf_122
  have hf := ite_f hf hc3
  refine lv_tableOut (tgt := 123) hx hb dX0_slotOf_58 (by have h1 := ni_ hc1 (z := 1) (by decide); have h2 := ni_ hc2 (z := 2) (by decide); have h3 := ni_ hc3 (z := 3) (by decide); omega) rfl ?_
  refine lv_iload hx hb dX0_slotOf_123 (lv_at hl 1 rfl) ?_
  refine lv_iload_n hx hb dX0_slotOf_125 rfl (lv_at hl 3 rfl) ?_
  refine lv_iadd hx hb dX0_slotOf_126 ?_
  refine lv_iload hx hb dX0_slotOf_127 (lv_at hl 0 rfl) ?_
  refine lv_iload hx hb dX0_slotOf_129 (lv_at hl 2 rfl) ?_
  refine lv_iadd hx hb dX0_slotOf_131 ?_
  refine sc_R hf (rSN_S (As := [.int (y4 + y1), .int (y6 + y2)]) (rest := []) E (mX6_cellAt l (y4 + y1) (y6 + y2)) (cwGN 2 okX6_cellAt (hU.2.1 _ (List.mem_of_getElem? (i := 8) rfl)) hts rfl rfl ⟨Nat.le_of_ble_eq_true rfl, Nat.le_of_ble_eq_true rfl⟩) rfl hl.1 (Nat.le_of_ble_eq_true rfl) dX0_slotOf_132 ⟨Nat.zero_le _, Nat.zero_le _⟩ rfl) (fun y11 hf => ?_)
  exact s_iretR E hrt hlocks hf dX0_slotOf_135
abbrev rmX0_targetOf : Room := { frames := 2, cells := 0, slots := 0, locals := 48 }
set_option maxRecDepth 100000 in
set_option maxHeartbeats 4000000 in
theorem mX0_targetOf (l : Launch) (D : va_G) (G : Nat → ClassId) (ad : Nat → Nat) (r : sR) (v : sV) (n : Nat) (x : Int64 × UInt64) (hsh : sSh r) (hn : 172 ≤ n) (cq : Nat) (bq : Nat) (hcb : okC cq bq) (x1 : Int32) : sMR l yX0_targetOf (.code yX0_targetOf cX0_targetOf 4 (some .int) :: wsL_law) rmX0_targetOf D G ad r v n x [.ref (ad cq), .int x1] (fX0_targetOf cq bq x1 v) := by
  intro res hf
  refine Met.ofW (cc := cX0_targetOf) (maxL := 4) (ret := (some .int)) (by decide) rfl ?_
  intro p e s m args below meth c s₁ B hml hv
  obtain ⟨rfl, hU, hP⟩ := hv
  have hx := B.exec
  have hb := B.bytes
  have hrt := B.returns
  have hts : ∀ w ∈ wsL_law, w.before _ s = true := fun w hw => atoms_spec (ws := .code yX0_targetOf cX0_targetOf 4 (some .int) :: wsL_law) B.pre w (List.mem_cons_of_mem _ hw)
  have hlocks := B.notSynchronized
  have E : CallFix p m c cX0_targetOf 4 s ([.ref (ad cq), .int x1] : List Value).toArray wsL_law RX0 := ⟨hx, hb, hml, findClass_of_methodNamed B.named, hts⟩
  have hl := lv_entry ([.ref (ad cq), .int x1]) (n := 4) (Nat.le_of_ble_eq_true rfl)
  rw [lg_entry_eq]
  generalize (lg_sl ([.ref (ad cq), .int x1]) ++ List.replicate (4 - (lg_sl ([.ref (ad cq), .int x1])).length) Slot.unset).toArray = ls at hl ⊢
  have hl : lv_has ls 4 [(0, .ref (ad cq)), (1, .int x1)] := hl
  have hf := (fX0_targetOf.eq_1 ..).symm.trans hf
  refine lv_aload_n hx hb dX0_targetOf_0 rfl (lv_at hl 0 rfl) ?_
  refine s_getR (k := 0) (t := bq) E hU hP sc2 (okC_lt hsh hcb hn) (okC_k hcb) inlX0 (Nat.le_of_ble_eq_true rfl) rfl rfl wkX0_9 (hsh.1 _ _ _ (okC_r0 hcb)) dX0_targetOf_1 ?_
  refine s_getR (k := 8) (t := (bq + 9)) E hU hP sc7 (okS_lt0 hsh (okC_S hcb) hn) (okS_k hsh (okC_S hcb)) inlX5 (Nat.le_of_ble_eq_true rfl) rfl rfl wkX0_45 (okS_r hsh (okC_S hcb) 8 rfl) dX0_targetOf_4 ?_
  refine lv_iload_n hx hb dX0_targetOf_7 rfl (lv_at hl 1 rfl) ?_
  refine s_iald E hU hP (okS_lt hsh (okC_S hcb) hn 9 rfl) (okS_kj hsh (okC_S hcb) 9 _ rfl) dX0_targetOf_8 hf (fun y1 hf => ?_)
  refine lv_istore_n (lv' := [(2, .int y1), (0, .ref (ad cq)), (1, .int x1)]) hx hb dX0_targetOf_9 rfl hl (Nat.le_of_ble_eq_true rfl) rfl (fun ls hl => ?_)
  refine lv_aload_n hx hb dX0_targetOf_10 rfl (lv_at hl 1 rfl) ?_
  refine lv_iload_n hx hb dX0_targetOf_11 rfl (lv_at hl 0 rfl) ?_
  refine sc_R hf (rV_R (As := [.int y1]) (rest := []) E hU hP sc2 (okC_lt hsh hcb hn) (okC_k hcb) (mX0_exists l D G ad r _ n x hsh hn cq bq hcb y1) (cwGV 1 okX0_exists wmX0_25 hts rfl rfl ⟨Nat.le_of_ble_eq_true rfl, Nat.le_of_ble_eq_true rfl⟩) rfl hl.1 (Nat.le_of_ble_eq_true rfl) dX0_targetOf_12 ⟨Nat.zero_le _, Nat.zero_le _⟩ rfl) (fun y2 hf => ?_)
  refine lv_if_eq (tgt := 47) hx hb dX0_targetOf_15 rfl (fun hc => ?_) (fun hc => ?_)
  · have hf := ite_t hf hc
    refine lv_aload_n hx hb dX0_targetOf_47 rfl (lv_at hl 1 rfl) ?_
    refine s_getR (k := 0) (t := bq) E hU hP sc2 (okC_lt hsh hcb hn) (okC_k hcb) inlX0 (Nat.le_of_ble_eq_true rfl) rfl rfl wkX0_9 (hsh.1 _ _ _ (okC_r0 hcb)) dX0_targetOf_48 ?_
    refine s_getR (k := 4) (t := (bq + 5)) E hU hP sc7 (okS_lt0 hsh (okC_S hcb) hn) (okS_k hsh (okC_S hcb)) inlX5 (Nat.le_of_ble_eq_true rfl) rfl rfl wkX0_55 (okS_r hsh (okC_S hcb) 4 rfl) dX0_targetOf_51 ?_
    refine lv_iload_n hx hb dX0_targetOf_54 rfl (lv_at hl 2 rfl) ?_
    refine s_iald E hU hP (okS_lt hsh (okC_S hcb) hn 5 rfl) (okS_kj hsh (okC_S hcb) 5 _ rfl) dX0_targetOf_55 hf (fun y3 hf => ?_)
    refine lv_istore_n (lv' := [(3, .int y3), (2, .int y1), (0, .ref (ad cq)), (1, .int x1)]) hx hb dX0_targetOf_56 rfl hl (Nat.le_of_ble_eq_true rfl) rfl (fun ls hl => ?_)
    refine lv_iload_n hx hb dX0_targetOf_57 rfl (lv_at hl 0 rfl) ?_
    refine lv_if_lt (tgt := 78) hx hb dX0_targetOf_58 rfl (fun hc => ?_) (fun hc => ?_)
    · have hf := ite_t hf hc
      refine lv_iconst (v := (-1)) hx hb dX0_targetOf_78 rfl ?_
      exact s_iretR E hrt hlocks hf dX0_targetOf_79
    · have hf := ite_f hf hc
      refine lv_iload_n hx hb dX0_targetOf_61 rfl (lv_at hl 0 rfl) ?_
      refine lv_iconst (v := 4) hx hb dX0_targetOf_62 rfl ?_
      refine lv_icmp_ge (tgt := 78) hx hb dX0_targetOf_63 rfl (fun hc => ?_) (fun hc => ?_)
      · have hf := ite_t hf hc
        refine lv_iconst (v := (-1)) hx hb dX0_targetOf_78 rfl ?_
        exact s_iretR E hrt hlocks hf dX0_targetOf_79
      · have hf := ite_f hf hc
        refine lv_aload_n hx hb dX0_targetOf_66 rfl (lv_at hl 2 rfl) ?_
        refine s_getR (k := 0) (t := bq) E hU hP sc2 (okC_lt hsh hcb hn) (okC_k hcb) inlX0 (Nat.le_of_ble_eq_true rfl) rfl rfl wkX0_9 (hsh.1 _ _ _ (okC_r0 hcb)) dX0_targetOf_67 ?_
        refine s_getR (k := 2) (t := (bq + 3)) E hU hP sc7 (okS_lt0 hsh (okC_S hcb) hn) (okS_k hsh (okC_S hcb)) inlX5 (Nat.le_of_ble_eq_true rfl) rfl rfl wkX0_29 (okS_r hsh (okC_S hcb) 2 rfl) dX0_targetOf_70 ?_
        refine lv_iload_n hx hb dX0_targetOf_73 rfl (lv_at hl 0 rfl) ?_
        refine s_iald E hU hP (okS_lt hsh (okC_S hcb) hn 3 rfl) (okS_kj hsh (okC_S hcb) 3 _ rfl) dX0_targetOf_74 hf (fun y4 hf => ?_)
        refine lv_goto (tgt := 79) hx hb dX0_targetOf_75 rfl ?_
        exact s_iretR E hrt hlocks hf dX0_targetOf_79
  · have hf := ite_f hf hc
    refine lv_aload_n hx hb dX0_targetOf_18 rfl (lv_at hl 1 rfl) ?_
    refine lv_iload_n hx hb dX0_targetOf_19 rfl (lv_at hl 2 rfl) ?_
    refine lv_iload_n hx hb dX0_targetOf_20 rfl (lv_at hl 0 rfl) ?_
    refine sc_R hf (rV_R (As := [.int x1, .int y1]) (rest := []) E hU hP sc2 (okC_lt hsh hcb hn) (okC_k hcb) (mX0_slotOf l D G ad r _ n x hsh hn cq bq hcb x1 y1) (cwGV 2 okX0_slotOf wmX0_51 hts rfl rfl ⟨Nat.le_of_ble_eq_true rfl, Nat.le_of_ble_eq_true rfl⟩) rfl hl.1 (Nat.le_of_ble_eq_true rfl) dX0_targetOf_21 ⟨Nat.zero_le _, Nat.zero_le _⟩ rfl) (fun y5 hf => ?_)
    refine lv_istore_n (lv' := [(3, .int y5), (2, .int y1), (0, .ref (ad cq)), (1, .int x1)]) hx hb dX0_targetOf_24 rfl hl (Nat.le_of_ble_eq_true rfl) rfl (fun ls hl => ?_)
    refine lv_aload_n hx hb dX0_targetOf_25 rfl (lv_at hl 2 rfl) ?_
    refine lv_iload_n hx hb dX0_targetOf_26 rfl (lv_at hl 0 rfl) ?_
    refine sc_R hf (rV_R (As := [.int y5]) (rest := []) E hU hP sc2 (okC_lt hsh hcb hn) (okC_k hcb) (mX0_isOpen l D G ad r _ n x hsh hn cq bq hcb y5) (cwGV 1 okX0_isOpen wmX0_39 hts rfl rfl ⟨Nat.le_of_ble_eq_true rfl, Nat.le_of_ble_eq_true rfl⟩) rfl hl.1 (Nat.le_of_ble_eq_true rfl) dX0_targetOf_27 ⟨Nat.zero_le _, Nat.zero_le _⟩ rfl) (fun y6 hf => ?_)
    refine lv_if_eq (tgt := 37) hx hb dX0_targetOf_30 rfl (fun hc => ?_) (fun hc => ?_)
    · have hf := ite_t hf hc
      refine lv_aload_n hx hb dX0_targetOf_37 rfl (lv_at hl 2 rfl) ?_
      refine s_getR (k := 0) (t := bq) E hU hP sc2 (okC_lt hsh hcb hn) (okC_k hcb) inlX0 (Nat.le_of_ble_eq_true rfl) rfl rfl wkX0_9 (hsh.1 _ _ _ (okC_r0 hcb)) dX0_targetOf_38 ?_
      refine s_getR (k := 3) (t := (bq + 4)) E hU hP sc7 (okS_lt0 hsh (okC_S hcb) hn) (okS_k hsh (okC_S hcb)) inlX5 (Nat.le_of_ble_eq_true rfl) rfl rfl wkX0_19 (okS_r hsh (okC_S hcb) 3 rfl) dX0_targetOf_41 ?_
      refine lv_iload_n hx hb dX0_targetOf_44 rfl (lv_at hl 1 rfl) ?_
      refine s_iald E hU hP (okS_lt hsh (okC_S hcb) hn 4 rfl) (okS_kj hsh (okC_S hcb) 4 _ rfl) dX0_targetOf_45 hf (fun y7 hf => ?_)
      exact s_iretR E hrt hlocks hf dX0_targetOf_46
    · have hf := ite_f hf hc
      refine lv_iload_n hx hb dX0_targetOf_33 rfl (lv_at hl 0 rfl) ?_
      refine lv_goto (tgt := 46) hx hb dX0_targetOf_34 rfl ?_
      exact s_iretR E hrt hlocks hf dX0_targetOf_46
abbrev rmX0_isSettled : Room := { frames := 3, cells := 0, slots := 0, locals := 71 }
set_option maxRecDepth 100000 in
set_option maxHeartbeats 4000000 in
theorem mX0_isSettled (l : Launch) (D : va_G) (G : Nat → ClassId) (ad : Nat → Nat) (r : sR) (v : sV) (n : Nat) (x : Int64 × UInt64) (hsh : sSh r) (hn : 172 ≤ n) (cq : Nat) (bq : Nat) (hcb : okC cq bq) (x1 : Int32) : sMR l yX0_isSettled (.code yX0_isSettled cX0_isSettled 3 (some .boolean) :: wsL_law) rmX0_isSettled D G ad r v n x [.ref (ad cq), .int x1] (fX0_isSettled cq bq x1 v) := by
  intro res hf
  refine Met.ofW (cc := cX0_isSettled) (maxL := 3) (ret := (some .boolean)) (by decide) rfl ?_
  intro p e s m args below meth c s₁ B hml hv
  obtain ⟨rfl, hU, hP⟩ := hv
  have hx := B.exec
  have hb := B.bytes
  have hrt := B.returns
  have hts : ∀ w ∈ wsL_law, w.before _ s = true := fun w hw => atoms_spec (ws := .code yX0_isSettled cX0_isSettled 3 (some .boolean) :: wsL_law) B.pre w (List.mem_cons_of_mem _ hw)
  have hlocks := B.notSynchronized
  have E : CallFix p m c cX0_isSettled 3 s ([.ref (ad cq), .int x1] : List Value).toArray wsL_law RX0 := ⟨hx, hb, hml, findClass_of_methodNamed B.named, hts⟩
  have hl := lv_entry ([.ref (ad cq), .int x1]) (n := 3) (Nat.le_of_ble_eq_true rfl)
  rw [lg_entry_eq]
  generalize (lg_sl ([.ref (ad cq), .int x1]) ++ List.replicate (3 - (lg_sl ([.ref (ad cq), .int x1])).length) Slot.unset).toArray = ls at hl ⊢
  have hl : lv_has ls 3 [(0, .ref (ad cq)), (1, .int x1)] := hl
  have hf := (fX0_isSettled.eq_1 ..).symm.trans hf
  refine lv_aload_n hx hb dX0_isSettled_0 rfl (lv_at hl 0 rfl) ?_
  refine lv_iload_n hx hb dX0_isSettled_1 rfl (lv_at hl 1 rfl) ?_
  refine sc_R hf (rV_R (As := [.int x1]) (rest := []) E hU hP sc2 (okC_lt hsh hcb hn) (okC_k hcb) (mX0_targetOf l D G ad r _ n x hsh hn cq bq hcb x1) (cwGV 1 okX0_targetOf wmX0_76 hts rfl rfl ⟨Nat.le_of_ble_eq_true rfl, Nat.le_of_ble_eq_true rfl⟩) rfl hl.1 (Nat.le_of_ble_eq_true rfl) dX0_isSettled_2 ⟨Nat.zero_le _, Nat.zero_le _⟩ rfl) (fun y1 hf => ?_)
  refine lv_istore_n (lv' := [(2, .int y1), (0, .ref (ad cq)), (1, .int x1)]) hx hb dX0_isSettled_5 rfl hl (Nat.le_of_ble_eq_true rfl) rfl (fun ls hl => ?_)
  refine lv_iload_n hx hb dX0_isSettled_6 rfl (lv_at hl 0 rfl) ?_
  refine lv_iconst (v := (-1)) hx hb dX0_isSettled_7 rfl ?_
  refine lv_icmp_eq (tgt := 24) hx hb dX0_isSettled_8 rfl (fun hc => ?_) (fun hc => ?_)
  · have hf := ite_t hf hc
    refine lv_iconst (v := 1) hx hb dX0_isSettled_24 rfl ?_
    refine lv_goto (tgt := 29) hx hb dX0_isSettled_25 rfl ?_
    exact s_zretR E hrt hlocks rfl hf dX0_isSettled_29
  · have hf := ite_f hf hc
    refine lv_iload_n hx hb dX0_isSettled_11 rfl (lv_at hl 0 rfl) ?_
    refine lv_aload_n hx hb dX0_isSettled_12 rfl (lv_at hl 1 rfl) ?_
    refine s_getR (k := 0) (t := bq) E hU hP sc2 (okC_lt hsh hcb hn) (okC_k hcb) inlX0 (Nat.le_of_ble_eq_true rfl) rfl rfl wkX0_9 (hsh.1 _ _ _ (okC_r0 hcb)) dX0_isSettled_13 ?_
    refine s_getR (k := 3) (t := (bq + 4)) E hU hP sc7 (okS_lt0 hsh (okC_S hcb) hn) (okS_k hsh (okC_S hcb)) inlX5 (Nat.le_of_ble_eq_true rfl) rfl rfl wkX0_19 (okS_r hsh (okC_S hcb) 3 rfl) dX0_isSettled_16 ?_
    refine lv_iload_n hx hb dX0_isSettled_19 rfl (lv_at hl 2 rfl) ?_
    refine s_iald E hU hP (okS_lt hsh (okC_S hcb) hn 4 rfl) (okS_kj hsh (okC_S hcb) 4 _ rfl) dX0_isSettled_20 hf (fun y2 hf => ?_)
    refine lv_icmp_ne (tgt := 28) hx hb dX0_isSettled_21 rfl (fun hc => ?_) (fun hc => ?_)
    · have hf := ite_f hf hc
      refine lv_iconst (v := 0) hx hb dX0_isSettled_28 rfl ?_
      exact s_zretR E hrt hlocks rfl hf dX0_isSettled_29
    · have hf := ite_t hf hc
      refine lv_iconst (v := 1) hx hb dX0_isSettled_24 rfl ?_
      refine lv_goto (tgt := 29) hx hb dX0_isSettled_25 rfl ?_
      exact s_zretR E hrt hlocks rfl hf dX0_isSettled_29
abbrev rmX0_settledOnes : Room := { frames := 4, cells := 0, slots := 0, locals := 93 }
set_option maxRecDepth 100000 in
set_option maxHeartbeats 4000000 in
theorem lX0_settledOnes_4 {K : Nat} {cq : Nat} {bq : Nat} {res : Int32} (E : CallFix p m c cX0_settledOnes 3 s args wsL_law RX0) (hlocks : meth.locks = false) (hrt : meth.sig.returnType = (some .int)) (hU : sU D G s) (hsh : sSh r) (hn : 172 ≤ n) (hcb : okC cq bq) {v : sV} (hP : va_P D vwCl (sWl G ad r v n x) s.heap) :
    ∀ (k : Nat) (x1 : Int32) (x2 : Int32) (ls : Array Slot), fx2 (gX0_settledOnes_4 K cq bq v) k x1 x2 = some res → lv_has ls 3 [(0, .ref (ad cq)), (1, .int x1), (2, .int x2)] → W p l e rmX0_settledOnes s m args below meth c s.heap [] 0 0 (MQ below (vp_Si (fun q => q = res)) args s 0 0 (fun _ => False)) (F0 m 4 ls []) := by
  have hx := E.1
  have hb := E.2.1
  have hts := E.2.2.2.2
  intro k
  induction k with
  | zero =>
    intro x1 x2 ls hf hl
    exact fx2_z hf
  | succ k ih =>
    intro x1 x2 ls hf hl
    have hf := (gX0_settledOnes_4.eq_1 ..).symm.trans hf
    refine lv_iload_n hx hb dX0_settledOnes_4 rfl (lv_at hl 2 rfl) ?_
    refine lv_bipush (v := 16) hx hb dX0_settledOnes_5 rfl ?_
    refine lv_icmp_ge (tgt := 38) hx hb dX0_settledOnes_7 rfl (fun hc => ?_) (fun hc => ?_)
    · have hf := ite_t hf hc
      refine lv_iload_n hx hb dX0_settledOnes_38 rfl (lv_at hl 1 rfl) ?_
      exact s_iretR E hrt hlocks hf dX0_settledOnes_39
    · have hf := ite_f hf hc
      refine lv_aload_n hx hb dX0_settledOnes_10 rfl (lv_at hl 0 rfl) ?_
      refine lv_iload_n hx hb dX0_settledOnes_11 rfl (lv_at hl 2 rfl) ?_
      refine sc_R hf (rV_R (As := [.int x2]) (rest := []) E hU hP sc2 (okC_lt hsh hcb hn) (okC_k hcb) (mX0_exists l D G ad r _ n x hsh hn cq bq hcb x2) (cwGV 1 okX0_exists wmX0_25 hts rfl rfl ⟨Nat.le_of_ble_eq_true rfl, Nat.le_of_ble_eq_true rfl⟩) rfl hl.1 (Nat.le_of_ble_eq_true rfl) dX0_settledOnes_12 ⟨Nat.zero_le _, Nat.zero_le _⟩ rfl) (fun y1 hf => ?_)
      refine lv_if_eq (tgt := 32) hx hb dX0_settledOnes_15 rfl (fun hc => ?_) (fun hc => ?_)
      · have hf := ite_t hf hc
        obtain ⟨z2, ez9, hf⟩ := nm_x hf
        refine lv_iinc (v := z2) (lv' := [(2, .int z2), (0, .ref (ad cq)), (1, .int x1)]) hx hb dX0_settledOnes_32 hl (k := 2) rfl (by rw [ez9]; rfl) (Nat.le_of_ble_eq_true rfl) rfl (fun ls hl => ?_)
        refine lv_goto (tgt := 4) hx hb dX0_settledOnes_35 rfl ?_
        exact ih _ _ _ hf (lv_sub hl [1, 2, 0] rfl)
      · have hf := ite_f hf hc
        refine lv_aload_n hx hb dX0_settledOnes_18 rfl (lv_at hl 0 rfl) ?_
        refine lv_iload_n hx hb dX0_settledOnes_19 rfl (lv_at hl 2 rfl) ?_
        refine sc_R hf (rV_R (As := [.int x2]) (rest := []) E hU hP sc2 (okC_lt hsh hcb hn) (okC_k hcb) (mX0_isSettled l D G ad r _ n x hsh hn cq bq hcb x2) (cwGV 1 okX0_isSettled wmX0_90 hts rfl rfl ⟨Nat.le_of_ble_eq_true rfl, Nat.le_of_ble_eq_true rfl⟩) rfl hl.1 (Nat.le_of_ble_eq_true rfl) dX0_settledOnes_20 ⟨Nat.zero_le _, Nat.zero_le _⟩ rfl) (fun y3 hf => ?_)
        refine lv_if_eq (tgt := 32) hx hb dX0_settledOnes_23 rfl (fun hc => ?_) (fun hc => ?_)
        · have hf := ite_t hf hc
          obtain ⟨z4, ez9, hf⟩ := nm_x hf
          refine lv_iinc (v := z4) (lv' := [(2, .int z4), (0, .ref (ad cq)), (1, .int x1)]) hx hb dX0_settledOnes_32 hl (k := 2) rfl (by rw [ez9]; rfl) (Nat.le_of_ble_eq_true rfl) rfl (fun ls hl => ?_)
          refine lv_goto (tgt := 4) hx hb dX0_settledOnes_35 rfl ?_
          exact ih _ _ _ hf (lv_sub hl [1, 2, 0] rfl)
        · have hf := ite_f hf hc
          refine lv_iload_n hx hb dX0_settledOnes_26 rfl (lv_at hl 1 rfl) ?_
          refine lv_iconst (v := 1) hx hb dX0_settledOnes_27 rfl ?_
          refine lv_iload_n hx hb dX0_settledOnes_28 rfl (lv_at hl 2 rfl) ?_
          refine lv_ishl hx hb dX0_settledOnes_29 ?_
          refine lv_ior hx hb dX0_settledOnes_30 ?_
          refine s_nm hf (fun z5 hf => ?_)
          refine lv_istore_n (lv' := [(1, .int z5), (0, .ref (ad cq)), (2, .int x2)]) hx hb dX0_settledOnes_31 rfl hl (Nat.le_of_ble_eq_true rfl) rfl (fun ls hl => ?_)
          obtain ⟨z6, ez9, hf⟩ := nm_x hf
          refine lv_iinc (v := z6) (lv' := [(2, .int z6), (1, .int z5), (0, .ref (ad cq))]) hx hb dX0_settledOnes_32 hl (k := 2) rfl (by rw [ez9]; rfl) (Nat.le_of_ble_eq_true rfl) rfl (fun ls hl => ?_)
          refine lv_goto (tgt := 4) hx hb dX0_settledOnes_35 rfl ?_
          exact ih _ _ _ hf (lv_sub hl [2, 1, 0] rfl)
set_option maxRecDepth 100000 in
set_option maxHeartbeats 4000000 in
theorem mX0_settledOnes (l : Launch) (K : Nat) (D : va_G) (G : Nat → ClassId) (ad : Nat → Nat) (r : sR) (v : sV) (n : Nat) (x : Int64 × UInt64) (hsh : sSh r) (hn : 172 ≤ n) (cq : Nat) (bq : Nat) (hcb : okC cq bq) : sMR l yX0_settledOnes (.code yX0_settledOnes cX0_settledOnes 3 (some .int) :: wsL_law) rmX0_settledOnes D G ad r v n x [.ref (ad cq)] (fX0_settledOnes K cq bq v) := by
  intro res hf
  refine Met.ofW (cc := cX0_settledOnes) (maxL := 3) (ret := (some .int)) (by decide) rfl ?_
  intro p e s m args below meth c s₁ B hml hv
  obtain ⟨rfl, hU, hP⟩ := hv
  have hx := B.exec
  have hb := B.bytes
  have hrt := B.returns
  have hts : ∀ w ∈ wsL_law, w.before _ s = true := fun w hw => atoms_spec (ws := .code yX0_settledOnes cX0_settledOnes 3 (some .int) :: wsL_law) B.pre w (List.mem_cons_of_mem _ hw)
  have hlocks := B.notSynchronized
  have E : CallFix p m c cX0_settledOnes 3 s ([.ref (ad cq)] : List Value).toArray wsL_law RX0 := ⟨hx, hb, hml, findClass_of_methodNamed B.named, hts⟩
  have hl := lv_entry ([.ref (ad cq)]) (n := 3) (Nat.le_of_ble_eq_true rfl)
  rw [lg_entry_eq]
  generalize (lg_sl ([.ref (ad cq)]) ++ List.replicate (3 - (lg_sl ([.ref (ad cq)])).length) Slot.unset).toArray = ls at hl ⊢
  have hl : lv_has ls 3 [(0, .ref (ad cq))] := hl
  have hf := (fX0_settledOnes.eq_1 ..).symm.trans hf
  refine lv_iconst (v := 0) hx hb dX0_settledOnes_0 rfl ?_
  refine lv_istore_n (lv' := [(1, .int 0), (0, .ref (ad cq))]) hx hb dX0_settledOnes_1 rfl hl (Nat.le_of_ble_eq_true rfl) rfl (fun ls hl => ?_)
  refine lv_iconst (v := 0) hx hb dX0_settledOnes_2 rfl ?_
  refine lv_istore_n (lv' := [(2, .int 0), (1, .int 0), (0, .ref (ad cq))]) hx hb dX0_settledOnes_3 rfl hl (Nat.le_of_ble_eq_true rfl) rfl (fun ls hl => ?_)
  exact lX0_settledOnes_4 E hlocks hrt hU hsh hn hcb hP _ _ _ _ hf (lv_sub hl [2, 1, 0] rfl)
abbrev rmX0_leadingOnes : Room := { frames := 1, cells := 0, slots := 0, locals := 21 }
set_option maxRecDepth 100000 in
set_option maxHeartbeats 4000000 in
theorem lX0_leadingOnes_4 {K : Nat} {cq : Nat} {bq : Nat} {res : Int32} (E : CallFix p m c cX0_leadingOnes 3 s args wsL_law RX0) (hlocks : meth.locks = false) (hrt : meth.sig.returnType = (some .int)) (hU : sU D G s) (hsh : sSh r) (hn : 172 ≤ n) (hcb : okC cq bq) {v : sV} (hP : va_P D vwCl (sWl G ad r v n x) s.heap) :
    ∀ (k : Nat) (x1 : Int32) (x2 : Int32) (ls : Array Slot), fx2 (gX0_leadingOnes_4 K cq bq v) k x1 x2 = some res → lv_has ls 3 [(0, .ref (ad cq)), (1, .int x1), (2, .int x2)] → W p l e rmX0_leadingOnes s m args below meth c s.heap [] 0 0 (MQ below (vp_Si (fun q => q = res)) args s 0 0 (fun _ => False)) (F0 m 4 ls []) := by
  have hx := E.1
  have hb := E.2.1
  have hts := E.2.2.2.2
  intro k
  induction k with
  | zero =>
    intro x1 x2 ls hf hl
    exact fx2_z hf
  | succ k ih =>
    intro x1 x2 ls hf hl
    have hf := (gX0_leadingOnes_4.eq_1 ..).symm.trans hf
    refine lv_iload_n hx hb dX0_leadingOnes_4 rfl (lv_at hl 2 rfl) ?_
    refine lv_bipush (v := 16) hx hb dX0_leadingOnes_5 rfl ?_
    refine lv_icmp_ge (tgt := 38) hx hb dX0_leadingOnes_7 rfl (fun hc => ?_) (fun hc => ?_)
    · have hf := ite_t hf hc
      refine lv_iload_n hx hb dX0_leadingOnes_38 rfl (lv_at hl 1 rfl) ?_
      exact s_iretR E hrt hlocks hf dX0_leadingOnes_39
    · have hf := ite_f hf hc
      refine lv_aload_n hx hb dX0_leadingOnes_10 rfl (lv_at hl 0 rfl) ?_
      refine lv_iload_n hx hb dX0_leadingOnes_11 rfl (lv_at hl 2 rfl) ?_
      refine sc_R hf (rV_R (As := [.int x2]) (rest := []) E hU hP sc2 (okC_lt hsh hcb hn) (okC_k hcb) (mX0_isMember l D G ad r _ n x hsh hn cq bq hcb x2) (cwGV 1 okX0_isMember wmX0_96 hts rfl rfl ⟨Nat.le_of_ble_eq_true rfl, Nat.le_of_ble_eq_true rfl⟩) rfl hl.1 (Nat.le_of_ble_eq_true rfl) dX0_leadingOnes_12 ⟨Nat.zero_le _, Nat.zero_le _⟩ rfl) (fun y1 hf => ?_)
      refine lv_if_eq (tgt := 32) hx hb dX0_leadingOnes_15 rfl (fun hc => ?_) (fun hc => ?_)
      · have hf := ite_t hf hc
        obtain ⟨z2, ez9, hf⟩ := nm_x hf
        refine lv_iinc (v := z2) (lv' := [(2, .int z2), (0, .ref (ad cq)), (1, .int x1)]) hx hb dX0_leadingOnes_32 hl (k := 2) rfl (by rw [ez9]; rfl) (Nat.le_of_ble_eq_true rfl) rfl (fun ls hl => ?_)
        refine lv_goto (tgt := 4) hx hb dX0_leadingOnes_35 rfl ?_
        exact ih _ _ _ hf (lv_sub hl [1, 2, 0] rfl)
      · have hf := ite_f hf hc
        refine lv_iload_n hx hb dX0_leadingOnes_18 rfl (lv_at hl 1 rfl) ?_
        refine lv_iconst (v := 1) hx hb dX0_leadingOnes_19 rfl ?_
        refine lv_aload_n hx hb dX0_leadingOnes_20 rfl (lv_at hl 0 rfl) ?_
        refine s_getR (k := 0) (t := bq) E hU hP sc2 (okC_lt hsh hcb hn) (okC_k hcb) inlX0 (Nat.le_of_ble_eq_true rfl) rfl rfl wkX0_9 (hsh.1 _ _ _ (okC_r0 hcb)) dX0_leadingOnes_21 ?_
        refine s_getR (k := 8) (t := (bq + 9)) E hU hP sc7 (okS_lt0 hsh (okC_S hcb) hn) (okS_k hsh (okC_S hcb)) inlX5 (Nat.le_of_ble_eq_true rfl) rfl rfl wkX0_45 (okS_r hsh (okC_S hcb) 8 rfl) dX0_leadingOnes_24 ?_
        refine lv_iload_n hx hb dX0_leadingOnes_27 rfl (lv_at hl 2 rfl) ?_
        refine s_iald E hU hP (okS_lt hsh (okC_S hcb) hn 9 rfl) (okS_kj hsh (okC_S hcb) 9 _ rfl) dX0_leadingOnes_28 hf (fun y3 hf => ?_)
        refine lv_ishl hx hb dX0_leadingOnes_29 ?_
        refine lv_ior hx hb dX0_leadingOnes_30 ?_
        refine s_nm hf (fun z4 hf => ?_)
        refine lv_istore_n (lv' := [(1, .int z4), (0, .ref (ad cq)), (2, .int x2)]) hx hb dX0_leadingOnes_31 rfl hl (Nat.le_of_ble_eq_true rfl) rfl (fun ls hl => ?_)
        obtain ⟨z5, ez9, hf⟩ := nm_x hf
        refine lv_iinc (v := z5) (lv' := [(2, .int z5), (1, .int z4), (0, .ref (ad cq))]) hx hb dX0_leadingOnes_32 hl (k := 2) rfl (by rw [ez9]; rfl) (Nat.le_of_ble_eq_true rfl) rfl (fun ls hl => ?_)
        refine lv_goto (tgt := 4) hx hb dX0_leadingOnes_35 rfl ?_
        exact ih _ _ _ hf (lv_sub hl [2, 1, 0] rfl)
set_option maxRecDepth 100000 in
set_option maxHeartbeats 4000000 in
theorem mX0_leadingOnes (l : Launch) (K : Nat) (D : va_G) (G : Nat → ClassId) (ad : Nat → Nat) (r : sR) (v : sV) (n : Nat) (x : Int64 × UInt64) (hsh : sSh r) (hn : 172 ≤ n) (cq : Nat) (bq : Nat) (hcb : okC cq bq) : sMR l yX0_leadingOnes (.code yX0_leadingOnes cX0_leadingOnes 3 (some .int) :: wsL_law) rmX0_leadingOnes D G ad r v n x [.ref (ad cq)] (fX0_leadingOnes K cq bq v) := by
  intro res hf
  refine Met.ofW (cc := cX0_leadingOnes) (maxL := 3) (ret := (some .int)) (by decide) rfl ?_
  intro p e s m args below meth c s₁ B hml hv
  obtain ⟨rfl, hU, hP⟩ := hv
  have hx := B.exec
  have hb := B.bytes
  have hrt := B.returns
  have hts : ∀ w ∈ wsL_law, w.before _ s = true := fun w hw => atoms_spec (ws := .code yX0_leadingOnes cX0_leadingOnes 3 (some .int) :: wsL_law) B.pre w (List.mem_cons_of_mem _ hw)
  have hlocks := B.notSynchronized
  have E : CallFix p m c cX0_leadingOnes 3 s ([.ref (ad cq)] : List Value).toArray wsL_law RX0 := ⟨hx, hb, hml, findClass_of_methodNamed B.named, hts⟩
  have hl := lv_entry ([.ref (ad cq)]) (n := 3) (Nat.le_of_ble_eq_true rfl)
  rw [lg_entry_eq]
  generalize (lg_sl ([.ref (ad cq)]) ++ List.replicate (3 - (lg_sl ([.ref (ad cq)])).length) Slot.unset).toArray = ls at hl ⊢
  have hl : lv_has ls 3 [(0, .ref (ad cq))] := hl
  have hf := (fX0_leadingOnes.eq_1 ..).symm.trans hf
  refine lv_iconst (v := 0) hx hb dX0_leadingOnes_0 rfl ?_
  refine lv_istore_n (lv' := [(1, .int 0), (0, .ref (ad cq))]) hx hb dX0_leadingOnes_1 rfl hl (Nat.le_of_ble_eq_true rfl) rfl (fun ls hl => ?_)
  refine lv_iconst (v := 0) hx hb dX0_leadingOnes_2 rfl ?_
  refine lv_istore_n (lv' := [(2, .int 0), (1, .int 0), (0, .ref (ad cq))]) hx hb dX0_leadingOnes_3 rfl hl (Nat.le_of_ble_eq_true rfl) rfl (fun ls hl => ?_)
  exact lX0_leadingOnes_4 E hlocks hrt hU hsh hn hcb hP _ _ _ _ hf (lv_sub hl [2, 1, 0] rfl)
abbrev rmX0_memberOnes : Room := { frames := 1, cells := 0, slots := 0, locals := 21 }
set_option maxRecDepth 100000 in
set_option maxHeartbeats 4000000 in
theorem lX0_memberOnes_4 {K : Nat} {cq : Nat} {bq : Nat} {res : Int32} (E : CallFix p m c cX0_memberOnes 3 s args wsL_law RX0) (hlocks : meth.locks = false) (hrt : meth.sig.returnType = (some .int)) (hU : sU D G s) (hsh : sSh r) (hn : 172 ≤ n) (hcb : okC cq bq) {v : sV} (hP : va_P D vwCl (sWl G ad r v n x) s.heap) :
    ∀ (k : Nat) (x1 : Int32) (x2 : Int32) (ls : Array Slot), fx2 (gX0_memberOnes_4 K cq bq v) k x1 x2 = some res → lv_has ls 3 [(0, .ref (ad cq)), (1, .int x1), (2, .int x2)] → W p l e rmX0_memberOnes s m args below meth c s.heap [] 0 0 (MQ below (vp_Si (fun q => q = res)) args s 0 0 (fun _ => False)) (F0 m 4 ls []) := by
  have hx := E.1
  have hb := E.2.1
  have hts := E.2.2.2.2
  intro k
  induction k with
  | zero =>
    intro x1 x2 ls hf hl
    exact fx2_z hf
  | succ k ih =>
    intro x1 x2 ls hf hl
    have hf := (gX0_memberOnes_4.eq_1 ..).symm.trans hf
    refine lv_iload_n hx hb dX0_memberOnes_4 rfl (lv_at hl 2 rfl) ?_
    refine lv_bipush (v := 16) hx hb dX0_memberOnes_5 rfl ?_
    refine lv_icmp_ge (tgt := 30) hx hb dX0_memberOnes_7 rfl (fun hc => ?_) (fun hc => ?_)
    · have hf := ite_t hf hc
      refine lv_iload_n hx hb dX0_memberOnes_30 rfl (lv_at hl 1 rfl) ?_
      exact s_iretR E hrt hlocks hf dX0_memberOnes_31
    · have hf := ite_f hf hc
      refine lv_aload_n hx hb dX0_memberOnes_10 rfl (lv_at hl 0 rfl) ?_
      refine lv_iload_n hx hb dX0_memberOnes_11 rfl (lv_at hl 2 rfl) ?_
      refine sc_R hf (rV_R (As := [.int x2]) (rest := []) E hU hP sc2 (okC_lt hsh hcb hn) (okC_k hcb) (mX0_isMember l D G ad r _ n x hsh hn cq bq hcb x2) (cwGV 1 okX0_isMember wmX0_96 hts rfl rfl ⟨Nat.le_of_ble_eq_true rfl, Nat.le_of_ble_eq_true rfl⟩) rfl hl.1 (Nat.le_of_ble_eq_true rfl) dX0_memberOnes_12 ⟨Nat.zero_le _, Nat.zero_le _⟩ rfl) (fun y1 hf => ?_)
      refine lv_if_eq (tgt := 24) hx hb dX0_memberOnes_15 rfl (fun hc => ?_) (fun hc => ?_)
      · have hf := ite_t hf hc
        obtain ⟨z2, ez9, hf⟩ := nm_x hf
        refine lv_iinc (v := z2) (lv' := [(2, .int z2), (0, .ref (ad cq)), (1, .int x1)]) hx hb dX0_memberOnes_24 hl (k := 2) rfl (by rw [ez9]; rfl) (Nat.le_of_ble_eq_true rfl) rfl (fun ls hl => ?_)
        refine lv_goto (tgt := 4) hx hb dX0_memberOnes_27 rfl ?_
        exact ih _ _ _ hf (lv_sub hl [1, 2, 0] rfl)
      · have hf := ite_f hf hc
        refine lv_iload_n hx hb dX0_memberOnes_18 rfl (lv_at hl 1 rfl) ?_
        refine lv_iconst (v := 1) hx hb dX0_memberOnes_19 rfl ?_
        refine lv_iload_n hx hb dX0_memberOnes_20 rfl (lv_at hl 2 rfl) ?_
        refine lv_ishl hx hb dX0_memberOnes_21 ?_
        refine lv_ior hx hb dX0_memberOnes_22 ?_
        refine s_nm hf (fun z3 hf => ?_)
        refine lv_istore_n (lv' := [(1, .int z3), (0, .ref (ad cq)), (2, .int x2)]) hx hb dX0_memberOnes_23 rfl hl (Nat.le_of_ble_eq_true rfl) rfl (fun ls hl => ?_)
        obtain ⟨z4, ez9, hf⟩ := nm_x hf
        refine lv_iinc (v := z4) (lv' := [(2, .int z4), (1, .int z3), (0, .ref (ad cq))]) hx hb dX0_memberOnes_24 hl (k := 2) rfl (by rw [ez9]; rfl) (Nat.le_of_ble_eq_true rfl) rfl (fun ls hl => ?_)
        refine lv_goto (tgt := 4) hx hb dX0_memberOnes_27 rfl ?_
        exact ih _ _ _ hf (lv_sub hl [2, 1, 0] rfl)
set_option maxRecDepth 100000 in
set_option maxHeartbeats 4000000 in
theorem mX0_memberOnes (l : Launch) (K : Nat) (D : va_G) (G : Nat → ClassId) (ad : Nat → Nat) (r : sR) (v : sV) (n : Nat) (x : Int64 × UInt64) (hsh : sSh r) (hn : 172 ≤ n) (cq : Nat) (bq : Nat) (hcb : okC cq bq) : sMR l yX0_memberOnes (.code yX0_memberOnes cX0_memberOnes 3 (some .int) :: wsL_law) rmX0_memberOnes D G ad r v n x [.ref (ad cq)] (fX0_memberOnes K cq bq v) := by
  intro res hf
  refine Met.ofW (cc := cX0_memberOnes) (maxL := 3) (ret := (some .int)) (by decide) rfl ?_
  intro p e s m args below meth c s₁ B hml hv
  obtain ⟨rfl, hU, hP⟩ := hv
  have hx := B.exec
  have hb := B.bytes
  have hrt := B.returns
  have hts : ∀ w ∈ wsL_law, w.before _ s = true := fun w hw => atoms_spec (ws := .code yX0_memberOnes cX0_memberOnes 3 (some .int) :: wsL_law) B.pre w (List.mem_cons_of_mem _ hw)
  have hlocks := B.notSynchronized
  have E : CallFix p m c cX0_memberOnes 3 s ([.ref (ad cq)] : List Value).toArray wsL_law RX0 := ⟨hx, hb, hml, findClass_of_methodNamed B.named, hts⟩
  have hl := lv_entry ([.ref (ad cq)]) (n := 3) (Nat.le_of_ble_eq_true rfl)
  rw [lg_entry_eq]
  generalize (lg_sl ([.ref (ad cq)]) ++ List.replicate (3 - (lg_sl ([.ref (ad cq)])).length) Slot.unset).toArray = ls at hl ⊢
  have hl : lv_has ls 3 [(0, .ref (ad cq))] := hl
  have hf := (fX0_memberOnes.eq_1 ..).symm.trans hf
  refine lv_iconst (v := 0) hx hb dX0_memberOnes_0 rfl ?_
  refine lv_istore_n (lv' := [(1, .int 0), (0, .ref (ad cq))]) hx hb dX0_memberOnes_1 rfl hl (Nat.le_of_ble_eq_true rfl) rfl (fun ls hl => ?_)
  refine lv_iconst (v := 0) hx hb dX0_memberOnes_2 rfl ?_
  refine lv_istore_n (lv' := [(2, .int 0), (1, .int 0), (0, .ref (ad cq))]) hx hb dX0_memberOnes_3 rfl hl (Nat.le_of_ble_eq_true rfl) rfl (fun ls hl => ?_)
  exact lX0_memberOnes_4 E hlocks hrt hU hsh hn hcb hP _ _ _ _ hf (lv_sub hl [2, 1, 0] rfl)
end
