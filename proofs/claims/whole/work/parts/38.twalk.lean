section
variable {p : Program} {l : Launch} {e : Env} {s : State} {m : MethodId} {args : Array Value} {below : List Frame} {meth : Method} {c : Code}
variable {D : va_G} {G : Nat → ClassId} {ad : Nat → Nat} {r : sR} {n : Nat} {x : Int64 × UInt64}
abbrev rmX6_tick (c s : Nat) : Room := { frames := 9, cells := c, slots := s, locals := 220 }
set_option maxRecDepth 100000 in
set_option maxHeartbeats 4000000 in
theorem lX6_tick_32 {K : Nat} {x1 : Int32} {ad0 : Nat → Nat} {r0 : sR} {n0 : Nat} {fin : (Sum Int32 Nat × sR × sV × Nat)} (E : CallFix p m c cX6_tick 3 s args wsL_law RX6) (hlocks : meth.locks = false) (hrt : meth.sig.returnType = (some .int)) (hU : sU D G s) (hst : l.stackTraces = false) (hZ : sZ (sA ad0 r0 n0 s.heap.size) s) (htab : ∀ x ∈ c.exceptionTable.toList, False) :
    ∀ (k : Nat) (x2 : Int32) (r : sR) (v : sV) (n : Nat) (ad : Nat → Nat) (H : Heap) (locs : List Loc) (ls : Array Slot) (rez : (Sum Int32 Nat × sR × sV × Nat)), sSh r → 172 ≤ n → sGo r0 n0 ad0 r n ad → fx4 (gX6_tick_32 K x1) k x2 r v n = some rez → fin = fz n rez → sB D G (sA ad0 r0 n0 s.heap.size) s.heap ad r v n x H locs → lv_has ls 3 [(0, .ref (ad 0)), (1, .int x1), (2, .int x2)] → W p l e (rmX6_tick (mcT n0 fin) (msT n0 fin)) s m args below meth c H locs (n - n0) (sz n - sz n0) (vx_MQ below (sQTi D G ad0 r0 n0 x s.heap.size fin) (sXC D G ad0 r0 n0 x s.heap.size fin) args s (mcT n0 fin) (msT n0 fin) (sA ad0 r0 n0 s.heap.size)) (F0 m 32 ls []) := by
  have hx := E.1
  have hb := E.2.1
  have hts := E.2.2.2.2
  intro k
  induction k with
  | zero =>
    intro x2 r v n ad H locs ls rez hsh hn hgo hf he hB hl
    exact fx4_z hf
  | succ k ih =>
    intro x2 r v n ad H locs ls rez hsh hn hgo hf he hB hl
    have h0 := hgo.1
    have hf := (gX6_tick_32.eq_1 ..).symm.trans hf
    refine lv_iload_n hx hb dX6_tick_32 rfl (lv_at hl 2 rfl) ?_
    refine lv_iload_n hx hb dX6_tick_33 rfl (lv_at hl 1 rfl) ?_
    refine lv_icmp_ge (tgt := 50) hx hb dX6_tick_34 rfl (fun hc => ?_) (fun hc => ?_)
    · have hf := ite_t hf hc
      refine lv_aload_n hx hb dX6_tick_50 rfl (lv_at hl 0 rfl) ?_
      refine s_getR (k := 0) (t := 1) E hU hB.1 sc8 (slt hsh hn 0 rfl) rfl inlX6 (Nat.le_of_ble_eq_true rfl) rfl rfl wkX6_12 (hsh.1 0 0 1 rfl) dX6_tick_51 ?_
      refine s_getR (k := 11) (t := 13) E hU hB.1 sc7 (slt hsh hn 1 rfl) rfl inlX5 (Nat.le_of_ble_eq_true rfl) rfl rfl wkX6_267 (hsh.1 1 11 13 rfl) dX6_tick_54 ?_
      refine lv_iconst (v := 0) hx hb dX6_tick_57 rfl ?_
      refine s_iald E hU hB.1 (slt hsh hn 13 rfl) rfl dX6_tick_58 hf (fun y3 hf => ?_)
      exact s_iretT E hrt hlocks hB hgo hf he dX6_tick_59
    · have hf := ite_f hf hc
      refine lv_aload_n hx hb dX6_tick_37 rfl (lv_at hl 0 rfl) ?_
      refine s_getR (k := 2) (t := 20) E hU hB.1 sc8 (slt hsh hn 0 rfl) rfl inlX6 (Nat.le_of_ble_eq_true rfl) rfl rfl wkX6_28 (hsh.1 0 2 20 rfl) dX6_tick_38 ?_
      refine sc_Av hB (fun q h => Or.inr h) h0 ⟨Nat.le_add_right _ _, Nat.le_add_right _ _⟩ hf he (fun q9 h9 hc9 => rV_A (As := []) (rest := []) E hU hB sc2 (slt hsh hn 20 rfl) rfl (mX0_passTick l K D G ad r _ n x hsh hn 20 1 (Or.inl ⟨rfl, rfl⟩) _ _ h9) (cwGV 0 okX0_passTick wmX6_264 hts rfl rfl ⟨Nat.le_of_ble_eq_true rfl, Nat.le_of_ble_eq_true rfl⟩) rfl hl.1 (Nat.le_of_ble_eq_true rfl) dX6_tick_41 hc9 rfl) (fun rr4 v4 n4 rez hf he ad4 hg4 h0 H locs hB => ?_)
      have hl : lv_has ls 3 [(0, .ref (ad4 0)), (1, .int x1), (2, .int x2)] := by rw [(hg4.2 (0) (slt hsh hn 0 rfl)).2]; exact hl
      have hn : 172 ≤ n4 := Nat.le_trans hn hg4.1
      have hgo := hgo.trans hg4
      obtain ⟨hsh, hf⟩ := ck_e hf
      obtain ⟨z5, ez9, hf⟩ := nm_x hf
      refine lv_iinc (v := z5) (lv' := [(2, .int z5), (0, .ref (ad4 0)), (1, .int x1)]) hx hb dX6_tick_44 hl (k := 2) rfl (by rw [ez9]; rfl) (Nat.le_of_ble_eq_true rfl) rfl (fun ls hl => ?_)
      refine lv_goto (tgt := 32) hx hb dX6_tick_47 rfl ?_
      exact ih _ _ _ _ _ _ _ _ _ hsh hn hgo hf he hB (lv_sub hl [1, 2, 0] rfl)
set_option maxRecDepth 100000 in
set_option maxHeartbeats 4000000 in
theorem wX6_tick_16 {K : Nat} {x1 : Int32} {t0 : Int32} {ad0 ad : Nat → Nat} {n0 n : Nat} {r0 r : sR} {v : sV} {H : Heap} {locs : List Loc} {ls : Array Slot} {fin rez : (Sum Int32 Nat × sR × sV × Nat)} (E : CallFix p m c cX6_tick 3 s args wsL_law RX6) (hlocks : meth.locks = false) (hrt : meth.sig.returnType = (some .int)) (hU : sU D G s) (hst : l.stackTraces = false) (hZ : sZ (sA ad0 r0 n0 s.heap.size) s) (htab : ∀ x ∈ c.exceptionTable.toList, False) (hsh : sSh r) (hn : 172 ≤ n) (hgo : sGo r0 n0 ad0 r n ad) (hf : bX6_tick_16 K x1 t0 r v n = some rez) (he : fin = fz n rez) (hB : sB D G (sA ad0 r0 n0 s.heap.size) s.heap ad r v n x H locs) (hl : lv_has ls 3 [(0, .ref (ad 0)), (1, .int x1)]) :
    W p l e (rmX6_tick (mcT n0 fin) (msT n0 fin)) s m args below meth c H locs (n - n0) (sz n - sz n0) (vx_MQ below (sQTi D G ad0 r0 n0 x s.heap.size fin) (sXC D G ad0 r0 n0 x s.heap.size fin) args s (mcT n0 fin) (msT n0 fin) (sA ad0 r0 n0 s.heap.size)) (F0 m 16 ls [.int t0]) := by
  have hx := E.1
  have hb := E.2.1
  have hts := E.2.2.2.2
  have h0 := hgo.1
  have hf := (bX6_tick_16.eq_1 ..).symm.trans hf
  refine sc_Tv htab hlocks hB hgo ⟨Nat.le_refl _, Nat.le_refl _⟩ hf he (fun q9 h9 hc9 => rS_T (As := [.int t0]) (rest := []) E hU hZ (fun q h => Or.inr h) hB (mX6_requireArgument l hst D G ad r _ n x hsh hn t0 _ _ h9) (cwGS 1 okX6_requireArgument wmX6_60 hts rfl rfl ⟨Nat.le_of_ble_eq_true rfl, Nat.le_of_ble_eq_true rfl⟩) rfl hl.1 (Nat.le_of_ble_eq_true rfl) dX6_tick_16 hc9 rfl) (fun rr1 v1 n1 rez hf he ad1 hg1 h0 H locs hB => ?_)
  have hl : lv_has ls 3 [(0, .ref (ad1 0)), (1, .int x1)] := by rw [(hg1.2 (0) (slt hsh hn 0 rfl)).2]; exact hl
  have hn : 172 ≤ n1 := Nat.le_trans hn hg1.1
  have hgo := hgo.trans hg1
  obtain ⟨hsh, hf⟩ := ck_e hf
  refine lv_aload_n hx hb dX6_tick_19 rfl (lv_at hl 0 rfl) ?_
  refine s_getR (k := 4) (t := 35) E hU hB.1 sc8 (slt hsh hn 0 rfl) rfl inlX6 (Nat.le_of_ble_eq_true rfl) rfl rfl wkX6_38 (hsh.1 0 4 35 rfl) dX6_tick_20 ?_
  refine lv_aload_n hx hb dX6_tick_23 rfl (lv_at hl 0 rfl) ?_
  refine s_getR (k := 0) (t := 1) E hU hB.1 sc8 (slt hsh hn 0 rfl) rfl inlX6 (Nat.le_of_ble_eq_true rfl) rfl rfl wkX6_12 (hsh.1 0 0 1 rfl) dX6_tick_24 ?_
  refine sc_Av hB (fun q h => Or.inr h) h0 ⟨Nat.le_add_right _ _, Nat.le_add_right _ _⟩ hf he (fun q9 h9 hc9 => rV_A (As := [.ref (ad1 1)]) (rest := []) E hU hB sc5 (slt hsh hn 35 rfl) rfl (mX3_record l K D G ad1 rr1 _ n1 x hsh hn 1 (Or.inl (by decide)) _ _ h9) (cwGV 1 okX3_record wmX6_79 hts rfl rfl ⟨Nat.le_of_ble_eq_true rfl, Nat.le_of_ble_eq_true rfl⟩) rfl hl.1 (Nat.le_of_ble_eq_true rfl) dX6_tick_27 hc9 rfl) (fun rr2 v2 n2 rez hf he ad2 hg2 h0 H locs hB => ?_)
  have hl : lv_has ls 3 [(0, .ref (ad2 0)), (1, .int x1)] := by rw [(hg2.2 (0) (slt hsh hn 0 rfl)).2]; exact hl
  have hn : 172 ≤ n2 := Nat.le_trans hn hg2.1
  have hgo := hgo.trans hg2
  obtain ⟨hsh, hf⟩ := ck_e hf
  refine lv_iconst (v := 0) hx hb dX6_tick_30 rfl ?_
  refine lv_istore_n (lv' := [(2, .int 0), (0, .ref (ad2 0)), (1, .int x1)]) hx hb dX6_tick_31 rfl hl (Nat.le_of_ble_eq_true rfl) rfl (fun ls hl => ?_)
  exact lX6_tick_32 E hlocks hrt hU hst hZ htab _ _ _ _ _ _ _ _ _ _ hsh hn hgo hf he hB (lv_sub hl [1, 2, 0] rfl)
set_option maxRecDepth 100000 in
set_option maxHeartbeats 4000000 in
theorem mX6_tick (l : Launch) (K : Nat) (hst : l.stackTraces = false) (D : va_G) (G : Nat → ClassId) (ad : Nat → Nat) (r : sR) (v : sV) (n : Nat) (x : Int64 × UInt64) (hsh : sSh r) (hn : 172 ≤ n) (x1 : Int32) : sMT sQTi l yX6_tick (.code yX6_tick cX6_tick 3 (some .int) :: wsL_law) rmX6_tick D G ad r v n x [.ref (ad 0), .int x1] (fX6_tick K x1 r v n) := by
  intro sz0 q0 hf
  obtain ⟨fin, he⟩ : ∃ fin, fin = fz n q0 := ⟨_, rfl⟩
  rw [← he]
  refine vx_ofW (cc := cX6_tick) (maxL := 3) (ret := (some .int)) (by decide) rfl ?_
  intro p e s m args below meth c s₁ B hml htab hv
  obtain ⟨hargs, rfl, hU, hP, hD, hZ⟩ := hv
  have hx := B.exec
  have hb := B.bytes
  have hrt := B.returns
  have hts : ∀ w ∈ wsL_law, w.before args s = true := fun w hw => atoms_spec (ws := .code yX6_tick cX6_tick 3 (some .int) :: wsL_law) B.pre w (List.mem_cons_of_mem _ hw)
  have hlocks := B.notSynchronized
  have E : CallFix p m c cX6_tick 3 s args wsL_law RX6 := ⟨hx, hb, hml, findClass_of_methodNamed B.named, hts⟩
  have hB : sB D G (sA ad r n s.heap.size) s.heap ad r v n x s.heap [] := ⟨hP, sD_self hD, va_S.rf⟩
  have hgo : sGo r n ad r n ad := sGo.rf
  have h0 : n ≤ n := Nat.le_refl n
  have hl := lv_entry ([.ref (ad 0), .int x1]) (n := 3) (Nat.le_of_ble_eq_true rfl)
  refine W.eq (g2 := F0 m 0 ((lg_sl ([.ref (ad 0), .int x1]) ++ List.replicate (3 - (lg_sl ([.ref (ad 0), .int x1])).length) Slot.unset).toArray) []) (by rw [hargs]; exact lg_entry_eq _ _ _) ?_
  generalize (lg_sl ([.ref (ad 0), .int x1]) ++ List.replicate (3 - (lg_sl ([.ref (ad 0), .int x1])).length) Slot.unset).toArray = ls at hl ⊢
  have hl : lv_has ls 3 [(0, .ref (ad 0)), (1, .int x1)] := hl
  refine W_00 (n := n) ?_
  have hf := (fX6_tick.eq_1 ..).symm.trans hf
  refine lv_iload_n hx hb dX6_tick_0 rfl (lv_at hl 1 rfl) ?_
  refine lv_iconst (v := 1) hx hb dX6_tick_1 rfl ?_
  refine lv_icmp_lt (tgt := 15) hx hb dX6_tick_2 rfl (fun hc => ?_) (fun hc => ?_)
  · have hf := ite_t hf hc
    refine lv_iconst (v := 0) hx hb dX6_tick_15 rfl ?_
    exact wX6_tick_16 E hlocks hrt hU hst hZ htab hsh hn hgo hf he hB (lv_sub hl [0, 1] rfl)
  · have hf := ite_f hf hc
    refine lv_iload_n hx hb dX6_tick_5 rfl (lv_at hl 1 rfl) ?_
    refine lv_bipush (v := 50) hx hb dX6_tick_6 rfl ?_
    refine lv_icmp_gt (tgt := 15) hx hb dX6_tick_8 rfl (fun hc => ?_) (fun hc => ?_)
    · have hf := ite_t hf hc
      refine lv_iconst (v := 0) hx hb dX6_tick_15 rfl ?_
      exact wX6_tick_16 E hlocks hrt hU hst hZ htab hsh hn hgo hf he hB (lv_sub hl [0, 1] rfl)
    · have hf := ite_f hf hc
      refine lv_iconst (v := 1) hx hb dX6_tick_11 rfl ?_
      refine lv_goto (tgt := 16) hx hb dX6_tick_12 rfl ?_
      exact wX6_tick_16 E hlocks hrt hU hst hZ htab hsh hn hgo hf he hB (lv_sub hl [0, 1] rfl)
abbrev rmX6_statistic (c s : Nat) : Room := { frames := 9, cells := c, slots := s, locals := 220 }
set_option maxRecDepth 100000 in
set_option maxHeartbeats 4000000 in
theorem mX6_statistic (l : Launch) (hst : l.stackTraces = false) (D : va_G) (G : Nat → ClassId) (ad : Nat → Nat) (r : sR) (v : sV) (n : Nat) (x : Int64 × UInt64) (hsh : sSh r) (hn : 172 ≤ n) (x1 : Int32) : sMT sQTi l yX6_statistic (.code yX6_statistic cX6_statistic 2 (some .int) :: wsL_law) rmX6_statistic D G ad r v n x [.ref (ad 0), .int x1] (fX6_statistic x1 r v n) := by
  intro sz0 q0 hf
  obtain ⟨fin, he⟩ : ∃ fin, fin = fz n q0 := ⟨_, rfl⟩
  rw [← he]
  refine vx_ofW (cc := cX6_statistic) (maxL := 2) (ret := (some .int)) (by decide) rfl ?_
  intro p e s m args below meth c s₁ B hml htab hv
  obtain ⟨hargs, rfl, hU, hP, hD, hZ⟩ := hv
  have hx := B.exec
  have hb := B.bytes
  have hrt := B.returns
  have hts : ∀ w ∈ wsL_law, w.before args s = true := fun w hw => atoms_spec (ws := .code yX6_statistic cX6_statistic 2 (some .int) :: wsL_law) B.pre w (List.mem_cons_of_mem _ hw)
  have hlocks := B.notSynchronized
  have E : CallFix p m c cX6_statistic 2 s args wsL_law RX6 := ⟨hx, hb, hml, findClass_of_methodNamed B.named, hts⟩
  have hB : sB D G (sA ad r n s.heap.size) s.heap ad r v n x s.heap [] := ⟨hP, sD_self hD, va_S.rf⟩
  have hgo : sGo r n ad r n ad := sGo.rf
  have h0 : n ≤ n := Nat.le_refl n
  have hl := lv_entry ([.ref (ad 0), .int x1]) (n := 2) (Nat.le_of_ble_eq_true rfl)
  refine W.eq (g2 := F0 m 0 ((lg_sl ([.ref (ad 0), .int x1]) ++ List.replicate (2 - (lg_sl ([.ref (ad 0), .int x1])).length) Slot.unset).toArray) []) (by rw [hargs]; exact lg_entry_eq _ _ _) ?_
  generalize (lg_sl ([.ref (ad 0), .int x1]) ++ List.replicate (2 - (lg_sl ([.ref (ad 0), .int x1])).length) Slot.unset).toArray = ls at hl ⊢
  have hl : lv_has ls 2 [(0, .ref (ad 0)), (1, .int x1)] := hl
  refine W_00 (n := n) ?_
  have hf := (fX6_statistic.eq_1 ..).symm.trans hf
  refine lv_iload_n hx hb dX6_statistic_0 rfl (lv_at hl 1 rfl) ?_
  refine lv_if_lt (tgt := 13) hx hb dX6_statistic_1 rfl (fun hc => ?_) (fun hc => ?_)
  · have hf := ite_t hf hc
    refine lv_iconst (v := 0) hx hb dX6_statistic_13 rfl ?_
    refine sc_Tv htab hlocks hB hgo ⟨Nat.le_refl _, Nat.le_refl _⟩ hf he (fun q9 h9 hc9 => rS_T (As := [.int 0]) (rest := []) E hU hZ (fun q h => Or.inr h) hB (mX6_requireArgument l hst D G ad r _ n x hsh hn 0 _ _ h9) (cwGS 1 okX6_requireArgument wmX6_60 hts rfl rfl ⟨Nat.le_of_ble_eq_true rfl, Nat.le_of_ble_eq_true rfl⟩) rfl hl.1 (Nat.le_of_ble_eq_true rfl) dX6_statistic_14 hc9 rfl) (fun rr1 v1 n1 rez hf he ad1 hg1 h0 H locs hB => ?_)
    have hl : lv_has ls 2 [(0, .ref (ad1 0)), (1, .int x1)] := by rw [(hg1.2 (0) (slt hsh hn 0 rfl)).2]; exact hl
    have hn : 172 ≤ n1 := Nat.le_trans hn hg1.1
    have hgo := hgo.trans hg1
    obtain ⟨hsh, hf⟩ := ck_e hf
    refine lv_aload_n hx hb dX6_statistic_17 rfl (lv_at hl 0 rfl) ?_
    refine s_getR (k := 0) (t := 1) E hU hB.1 sc8 (slt hsh hn 0 rfl) rfl inlX6 (Nat.le_of_ble_eq_true rfl) rfl rfl wkX6_12 (hsh.1 0 0 1 rfl) dX6_statistic_18 ?_
    refine s_getR (k := 11) (t := 13) E hU hB.1 sc7 (slt hsh hn 1 rfl) rfl inlX5 (Nat.le_of_ble_eq_true rfl) rfl rfl wkX6_267 (hsh.1 1 11 13 rfl) dX6_statistic_21 ?_
    refine lv_iload_n hx hb dX6_statistic_24 rfl (lv_at hl 1 rfl) ?_
    refine s_iald E hU hB.1 (slt hsh hn 13 rfl) rfl dX6_statistic_25 hf (fun y2 hf => ?_)
    exact s_iretT E hrt hlocks hB hgo hf he dX6_statistic_26
  · have hf := ite_f hf hc
    refine lv_iload_n hx hb dX6_statistic_4 rfl (lv_at hl 1 rfl) ?_
    refine lv_iconst (v := 5) hx hb dX6_statistic_5 rfl ?_
    refine lv_icmp_ge (tgt := 13) hx hb dX6_statistic_6 rfl (fun hc => ?_) (fun hc => ?_)
    · have hf := ite_t hf hc
      refine lv_iconst (v := 0) hx hb dX6_statistic_13 rfl ?_
      refine sc_Tv htab hlocks hB hgo ⟨Nat.le_refl _, Nat.le_refl _⟩ hf he (fun q9 h9 hc9 => rS_T (As := [.int 0]) (rest := []) E hU hZ (fun q h => Or.inr h) hB (mX6_requireArgument l hst D G ad r _ n x hsh hn 0 _ _ h9) (cwGS 1 okX6_requireArgument wmX6_60 hts rfl rfl ⟨Nat.le_of_ble_eq_true rfl, Nat.le_of_ble_eq_true rfl⟩) rfl hl.1 (Nat.le_of_ble_eq_true rfl) dX6_statistic_14 hc9 rfl) (fun rr3 v3 n3 rez hf he ad3 hg3 h0 H locs hB => ?_)
      have hl : lv_has ls 2 [(0, .ref (ad3 0)), (1, .int x1)] := by rw [(hg3.2 (0) (slt hsh hn 0 rfl)).2]; exact hl
      have hn : 172 ≤ n3 := Nat.le_trans hn hg3.1
      have hgo := hgo.trans hg3
      obtain ⟨hsh, hf⟩ := ck_e hf
      refine lv_aload_n hx hb dX6_statistic_17 rfl (lv_at hl 0 rfl) ?_
      refine s_getR (k := 0) (t := 1) E hU hB.1 sc8 (slt hsh hn 0 rfl) rfl inlX6 (Nat.le_of_ble_eq_true rfl) rfl rfl wkX6_12 (hsh.1 0 0 1 rfl) dX6_statistic_18 ?_
      refine s_getR (k := 11) (t := 13) E hU hB.1 sc7 (slt hsh hn 1 rfl) rfl inlX5 (Nat.le_of_ble_eq_true rfl) rfl rfl wkX6_267 (hsh.1 1 11 13 rfl) dX6_statistic_21 ?_
      refine lv_iload_n hx hb dX6_statistic_24 rfl (lv_at hl 1 rfl) ?_
      refine s_iald E hU hB.1 (slt hsh hn 13 rfl) rfl dX6_statistic_25 hf (fun y4 hf => ?_)
      exact s_iretT E hrt hlocks hB hgo hf he dX6_statistic_26
    · have hf := ite_f hf hc
      refine lv_iconst (v := 1) hx hb dX6_statistic_9 rfl ?_
      refine lv_goto (tgt := 14) hx hb dX6_statistic_10 rfl ?_
      refine sc_Tv htab hlocks hB hgo ⟨Nat.le_refl _, Nat.le_refl _⟩ hf he (fun q9 h9 hc9 => rS_T (As := [.int 1]) (rest := []) E hU hZ (fun q h => Or.inr h) hB (mX6_requireArgument l hst D G ad r _ n x hsh hn 1 _ _ h9) (cwGS 1 okX6_requireArgument wmX6_60 hts rfl rfl ⟨Nat.le_of_ble_eq_true rfl, Nat.le_of_ble_eq_true rfl⟩) rfl hl.1 (Nat.le_of_ble_eq_true rfl) dX6_statistic_14 hc9 rfl) (fun rr5 v5 n5 rez hf he ad5 hg5 h0 H locs hB => ?_)
      have hl : lv_has ls 2 [(0, .ref (ad5 0)), (1, .int x1)] := by rw [(hg5.2 (0) (slt hsh hn 0 rfl)).2]; exact hl
      have hn : 172 ≤ n5 := Nat.le_trans hn hg5.1
      have hgo := hgo.trans hg5
      obtain ⟨hsh, hf⟩ := ck_e hf
      refine lv_aload_n hx hb dX6_statistic_17 rfl (lv_at hl 0 rfl) ?_
      refine s_getR (k := 0) (t := 1) E hU hB.1 sc8 (slt hsh hn 0 rfl) rfl inlX6 (Nat.le_of_ble_eq_true rfl) rfl rfl wkX6_12 (hsh.1 0 0 1 rfl) dX6_statistic_18 ?_
      refine s_getR (k := 11) (t := 13) E hU hB.1 sc7 (slt hsh hn 1 rfl) rfl inlX5 (Nat.le_of_ble_eq_true rfl) rfl rfl wkX6_267 (hsh.1 1 11 13 rfl) dX6_statistic_21 ?_
      refine lv_iload_n hx hb dX6_statistic_24 rfl (lv_at hl 1 rfl) ?_
      refine s_iald E hU hB.1 (slt hsh hn 13 rfl) rfl dX6_statistic_25 hf (fun y6 hf => ?_)
      exact s_iretT E hrt hlocks hB hgo hf he dX6_statistic_26
abbrev rmX6_forecast (c s : Nat) : Room := { frames := 9, cells := c, slots := s, locals := 221 }
set_option maxRecDepth 100000 in
set_option maxHeartbeats 4000000 in
theorem lX6_forecast_21 {K : Nat} {x1 : Int32} {ad0 : Nat → Nat} {r0 : sR} {n0 : Nat} {fin : (Sum Int32 Nat × sR × sV × Nat)} (E : CallFix p m c cX6_forecast 3 s args wsL_law RX6) (hlocks : meth.locks = false) (hrt : meth.sig.returnType = (some .int)) (hU : sU D G s) (hst : l.stackTraces = false) (hZ : sZ (sA ad0 r0 n0 s.heap.size) s) (htab : ∀ x ∈ c.exceptionTable.toList, False) :
    ∀ (k : Nat) (x2 : Int32) (r : sR) (v : sV) (n : Nat) (ad : Nat → Nat) (H : Heap) (locs : List Loc) (ls : Array Slot) (rez : (Sum Int32 Nat × sR × sV × Nat)), sSh r → 172 ≤ n → sGo r0 n0 ad0 r n ad → fx4 (gX6_forecast_21 K x1) k x2 r v n = some rez → fin = fz n rez → sB D G (sA ad0 r0 n0 s.heap.size) s.heap ad r v n x H locs → lv_has ls 3 [(0, .ref (ad 0)), (1, .int x1), (2, .int x2)] → W p l e (rmX6_forecast (mcT n0 fin) (msT n0 fin)) s m args below meth c H locs (n - n0) (sz n - sz n0) (vx_MQ below (sQTi D G ad0 r0 n0 x s.heap.size fin) (sXC D G ad0 r0 n0 x s.heap.size fin) args s (mcT n0 fin) (msT n0 fin) (sA ad0 r0 n0 s.heap.size)) (F0 m 21 ls []) := by
  have hx := E.1
  have hb := E.2.1
  have hts := E.2.2.2.2
  intro k
  induction k with
  | zero =>
    intro x2 r v n ad H locs ls rez hsh hn hgo hf he hB hl
    exact fx4_z hf
  | succ k ih =>
    intro x2 r v n ad H locs ls rez hsh hn hgo hf he hB hl
    have h0 := hgo.1
    have hf := (gX6_forecast_21.eq_1 ..).symm.trans hf
    refine lv_iload_n hx hb dX6_forecast_21 rfl (lv_at hl 2 rfl) ?_
    refine lv_bipush (v := 100) hx hb dX6_forecast_22 rfl ?_
    refine lv_icmp_ge (tgt := 53) hx hb dX6_forecast_24 rfl (fun hc => ?_) (fun hc => ?_)
    · have hf := ite_t hf hc
      refine lv_aload_n hx hb dX6_forecast_53 rfl (lv_at hl 0 rfl) ?_
      refine s_getR (k := 3) (t := 21) E hU hB.1 sc8 (slt hsh hn 0 rfl) rfl inlX6 (Nat.le_of_ble_eq_true rfl) rfl rfl wkX6_32 (hsh.1 0 3 21 rfl) dX6_forecast_54 ?_
      refine lv_iload_n hx hb dX6_forecast_57 rfl (lv_at hl 1 rfl) ?_
      refine sc_R hf (rV_R (As := [.int x1]) (rest := []) E hU hB.1 sc2 (slt hsh hn 21 rfl) rfl (mX0_isSettled l D G ad r _ n x hsh hn 21 22 (Or.inr ⟨rfl, rfl⟩) x1) (cwGV 1 okX0_isSettled wmX6_212 hts rfl rfl ⟨Nat.le_of_ble_eq_true rfl, Nat.le_of_ble_eq_true rfl⟩) rfl hl.1 (Nat.le_of_ble_eq_true rfl) dX6_forecast_58 (aC he (Nat.le_add_right _ _) (Nat.le_add_right _ _)) rfl) (fun y3 hf => ?_)
      refine lv_if_ne (tgt := 75) hx hb dX6_forecast_61 rfl (fun hc => ?_) (fun hc => ?_)
      · have hf := ite_f hf hc
        refine lv_bipush (v := 100) hx hb dX6_forecast_75 rfl ?_
        exact s_iretT E hrt hlocks hB hgo hf he dX6_forecast_77
      · have hf := ite_t hf hc
        exact s_thrWN E hU hst hZ htab hlocks hB hgo hl.1 sxk4 (List.mem_of_getElem? (i := 10) rfl) dX6_forecast_64 dX6_forecast_67 dX6_forecast_68 dX6_forecast_71 dX6_forecast_74 (Nat.le_of_ble_eq_true rfl) (Nat.le_of_ble_eq_true rfl) ⟨Nat.le_refl _, Nat.le_refl _⟩ hf he
    · have hf := ite_f hf hc
      refine lv_aload_n hx hb dX6_forecast_27 rfl (lv_at hl 0 rfl) ?_
      refine s_getR (k := 3) (t := 21) E hU hB.1 sc8 (slt hsh hn 0 rfl) rfl inlX6 (Nat.le_of_ble_eq_true rfl) rfl rfl wkX6_32 (hsh.1 0 3 21 rfl) dX6_forecast_28 ?_
      refine lv_iload_n hx hb dX6_forecast_31 rfl (lv_at hl 1 rfl) ?_
      refine sc_R hf (rV_R (As := [.int x1]) (rest := []) E hU hB.1 sc2 (slt hsh hn 21 rfl) rfl (mX0_isSettled l D G ad r _ n x hsh hn 21 22 (Or.inr ⟨rfl, rfl⟩) x1) (cwGV 1 okX0_isSettled wmX6_212 hts rfl rfl ⟨Nat.le_of_ble_eq_true rfl, Nat.le_of_ble_eq_true rfl⟩) rfl hl.1 (Nat.le_of_ble_eq_true rfl) dX6_forecast_32 (aC he (Nat.le_add_right _ _) (Nat.le_add_right _ _)) rfl) (fun y4 hf => ?_)
      refine lv_if_eq (tgt := 40) hx hb dX6_forecast_35 rfl (fun hc => ?_) (fun hc => ?_)
      · have hf := ite_t hf hc
        refine lv_aload_n hx hb dX6_forecast_40 rfl (lv_at hl 0 rfl) ?_
        refine s_getR (k := 3) (t := 21) E hU hB.1 sc8 (slt hsh hn 0 rfl) rfl inlX6 (Nat.le_of_ble_eq_true rfl) rfl rfl wkX6_32 (hsh.1 0 3 21 rfl) dX6_forecast_41 ?_
        refine sc_Av hB (fun q h => Or.inr h) h0 ⟨Nat.le_add_right _ _, Nat.le_add_right _ _⟩ hf he (fun q9 h9 hc9 => rV_A (As := []) (rest := []) E hU hB sc2 (slt hsh hn 21 rfl) rfl (mX0_passTick l K D G ad r _ n x hsh hn 21 22 (Or.inr ⟨rfl, rfl⟩) _ _ h9) (cwGV 0 okX0_passTick wmX6_264 hts rfl rfl ⟨Nat.le_of_ble_eq_true rfl, Nat.le_of_ble_eq_true rfl⟩) rfl hl.1 (Nat.le_of_ble_eq_true rfl) dX6_forecast_44 hc9 rfl) (fun rr5 v5 n5 rez hf he ad5 hg5 h0 H locs hB => ?_)
        have hl : lv_has ls 3 [(0, .ref (ad5 0)), (1, .int x1), (2, .int x2)] := by rw [(hg5.2 (0) (slt hsh hn 0 rfl)).2]; exact hl
        have hn : 172 ≤ n5 := Nat.le_trans hn hg5.1
        have hgo := hgo.trans hg5
        obtain ⟨hsh, hf⟩ := ck_e hf
        obtain ⟨z6, ez9, hf⟩ := nm_x hf
        refine lv_iinc (v := z6) (lv' := [(2, .int z6), (0, .ref (ad5 0)), (1, .int x1)]) hx hb dX6_forecast_47 hl (k := 2) rfl (by rw [ez9]; rfl) (Nat.le_of_ble_eq_true rfl) rfl (fun ls hl => ?_)
        refine lv_goto (tgt := 21) hx hb dX6_forecast_50 rfl ?_
        exact ih _ _ _ _ _ _ _ _ _ hsh hn hgo hf he hB (lv_sub hl [1, 2, 0] rfl)
      · have hf := ite_f hf hc
        refine lv_iload_n hx hb dX6_forecast_38 rfl (lv_at hl 2 rfl) ?_
        exact s_iretT E hrt hlocks hB hgo hf he dX6_forecast_39
set_option maxRecDepth 100000 in
set_option maxHeartbeats 4000000 in
theorem mX6_forecast (l : Launch) (K : Nat) (hst : l.stackTraces = false) (D : va_G) (G : Nat → ClassId) (ad : Nat → Nat) (r : sR) (v : sV) (n : Nat) (x : Int64 × UInt64) (hsh : sSh r) (hn : 172 ≤ n) (x1 : Int32) : sMT sQTi l yX6_forecast (.code yX6_forecast cX6_forecast 3 (some .int) :: wsL_law) rmX6_forecast D G ad r v n x [.ref (ad 0), .int x1] (fX6_forecast K x1 r v n) := by
  intro sz0 q0 hf
  obtain ⟨fin, he⟩ : ∃ fin, fin = fz n q0 := ⟨_, rfl⟩
  rw [← he]
  refine vx_ofW (cc := cX6_forecast) (maxL := 3) (ret := (some .int)) (by decide) rfl ?_
  intro p e s m args below meth c s₁ B hml htab hv
  obtain ⟨hargs, rfl, hU, hP, hD, hZ⟩ := hv
  have hx := B.exec
  have hb := B.bytes
  have hrt := B.returns
  have hts : ∀ w ∈ wsL_law, w.before args s = true := fun w hw => atoms_spec (ws := .code yX6_forecast cX6_forecast 3 (some .int) :: wsL_law) B.pre w (List.mem_cons_of_mem _ hw)
  have hlocks := B.notSynchronized
  have E : CallFix p m c cX6_forecast 3 s args wsL_law RX6 := ⟨hx, hb, hml, findClass_of_methodNamed B.named, hts⟩
  have hB : sB D G (sA ad r n s.heap.size) s.heap ad r v n x s.heap [] := ⟨hP, sD_self hD, va_S.rf⟩
  have hgo : sGo r n ad r n ad := sGo.rf
  have h0 : n ≤ n := Nat.le_refl n
  have hl := lv_entry ([.ref (ad 0), .int x1]) (n := 3) (Nat.le_of_ble_eq_true rfl)
  refine W.eq (g2 := F0 m 0 ((lg_sl ([.ref (ad 0), .int x1]) ++ List.replicate (3 - (lg_sl ([.ref (ad 0), .int x1])).length) Slot.unset).toArray) []) (by rw [hargs]; exact lg_entry_eq _ _ _) ?_
  generalize (lg_sl ([.ref (ad 0), .int x1]) ++ List.replicate (3 - (lg_sl ([.ref (ad 0), .int x1])).length) Slot.unset).toArray = ls at hl ⊢
  have hl : lv_has ls 3 [(0, .ref (ad 0)), (1, .int x1)] := hl
  refine W_00 (n := n) ?_
  have hf := (fX6_forecast.eq_1 ..).symm.trans hf
  refine lv_aload_n hx hb dX6_forecast_0 rfl (lv_at hl 0 rfl) ?_
  refine lv_iload_n hx hb dX6_forecast_1 rfl (lv_at hl 1 rfl) ?_
  refine sc_Tv htab hlocks hB hgo ⟨Nat.le_refl _, Nat.le_refl _⟩ hf he (fun q9 h9 hc9 => rV_T (As := [.int x1]) (rest := []) E hU hZ (fun q h => Or.inr h) hB sc8 (slt hsh hn 0 rfl) rfl (mX6_requireAgent l hst D G ad r _ n x hsh hn x1 _ _ h9) (cwGV 1 okX6_requireAgent wmX6_171 hts rfl rfl ⟨Nat.le_of_ble_eq_true rfl, Nat.le_of_ble_eq_true rfl⟩) rfl hl.1 (Nat.le_of_ble_eq_true rfl) dX6_forecast_2 hc9 rfl) (fun rr1 v1 n1 rez hf he ad1 hg1 h0 H locs hB => ?_)
  have hl : lv_has ls 3 [(0, .ref (ad1 0)), (1, .int x1)] := by rw [(hg1.2 (0) (slt hsh hn 0 rfl)).2]; exact hl
  have hn : 172 ≤ n1 := Nat.le_trans hn hg1.1
  have hgo := hgo.trans hg1
  obtain ⟨hsh, hf⟩ := ck_e hf
  refine lv_aload_n hx hb dX6_forecast_5 rfl (lv_at hl 0 rfl) ?_
  refine s_getR (k := 3) (t := 21) E hU hB.1 sc8 (slt hsh hn 0 rfl) rfl inlX6 (Nat.le_of_ble_eq_true rfl) rfl rfl wkX6_32 (hsh.1 0 3 21 rfl) dX6_forecast_6 ?_
  refine s_getR (k := 0) (t := 22) E hU hB.1 sc2 (slt hsh hn 21 rfl) rfl inlX0 (Nat.le_of_ble_eq_true rfl) rfl rfl wkX6_270 (hsh.1 21 0 22 rfl) dX6_forecast_9 ?_
  refine lv_aload_n hx hb dX6_forecast_12 rfl (lv_at hl 0 rfl) ?_
  refine s_getR (k := 0) (t := 1) E hU hB.1 sc8 (slt hsh hn 0 rfl) rfl inlX6 (Nat.le_of_ble_eq_true rfl) rfl rfl wkX6_12 (hsh.1 0 0 1 rfl) dX6_forecast_13 ?_
  refine sc_V hB (fun q h => Or.inr h) hf (fun q9 h9 => rV_W (As := [.ref (ad1 1)]) (rest := []) E hU hB sc7 (slt hsh hn 22 rfl) rfl ((mX5_copyFrom l D G ad1 rr1 _ n1 x hsh hn 22 1 (Or.inl (by decide)) (Or.inl (by decide))) _ _ h9) (cwGV 1 okX5_copyFrom wmX6_271 hts rfl rfl ⟨Nat.le_of_ble_eq_true rfl, Nat.le_of_ble_eq_true rfl⟩) rfl hl.1 (Nat.le_of_ble_eq_true rfl) dX6_forecast_16 (aC he (Nat.le_add_right _ _) (Nat.le_add_right _ _)) rfl) (fun v2 hf H locs hB => ?_)
  refine lv_iconst (v := 0) hx hb dX6_forecast_19 rfl ?_
  refine lv_istore_n (lv' := [(2, .int 0), (0, .ref (ad1 0)), (1, .int x1)]) hx hb dX6_forecast_20 rfl hl (Nat.le_of_ble_eq_true rfl) rfl (fun ls hl => ?_)
  exact lX6_forecast_21 E hlocks hrt hU hst hZ htab _ _ _ _ _ _ _ _ _ _ hsh hn hgo hf he hB (lv_sub hl [1, 2, 0] rfl)
abbrev rmX6_bottleneck (c s : Nat) : Room := { frames := 8, cells := c, slots := s, locals := 200 }
set_option maxRecDepth 100000 in
set_option maxHeartbeats 4000000 in
theorem lX6_bottleneck_6 {K : Nat} {ad0 : Nat → Nat} {r0 : sR} {n0 : Nat} {fin : (Sum Int32 Nat × sR × sV × Nat)} (E : CallFix p m c cX6_bottleneck 4 s args wsL_law RX6) (hlocks : meth.locks = false) (hrt : meth.sig.returnType = (some .int)) (hU : sU D G s) (hst : l.stackTraces = false) (hZ : sZ (sA ad0 r0 n0 s.heap.size) s) (htab : ∀ x ∈ c.exceptionTable.toList, False) :
    ∀ (k : Nat) (x1 : Int32) (x2 : Int32) (x3 : Int32) (r : sR) (v : sV) (n : Nat) (ad : Nat → Nat) (H : Heap) (locs : List Loc) (ls : Array Slot) (rez : (Sum Int32 Nat × sR × sV × Nat)), sSh r → 172 ≤ n → sGo r0 n0 ad0 r n ad → fx6 (gX6_bottleneck_6 K) k x1 x2 x3 r v n = some rez → fin = fz n rez → sB D G (sA ad0 r0 n0 s.heap.size) s.heap ad r v n x H locs → lv_has ls 4 [(0, .ref (ad 0)), (1, .int x1), (2, .int x2), (3, .int x3)] → W p l e (rmX6_bottleneck (mcT n0 fin) (msT n0 fin)) s m args below meth c H locs (n - n0) (sz n - sz n0) (vx_MQ below (sQTi D G ad0 r0 n0 x s.heap.size fin) (sXC D G ad0 r0 n0 x s.heap.size fin) args s (mcT n0 fin) (msT n0 fin) (sA ad0 r0 n0 s.heap.size)) (F0 m 6 ls []) := by
  have hx := E.1
  have hb := E.2.1
  have hts := E.2.2.2.2
  intro k
  induction k with
  | zero =>
    intro x1 x2 x3 r v n ad H locs ls rez hsh hn hgo hf he hB hl
    exact fx6_z hf
  | succ k ih =>
    intro x1 x2 x3 r v n ad H locs ls rez hsh hn hgo hf he hB hl
    have h0 := hgo.1
    have hf := (gX6_bottleneck_6.eq_1 ..).symm.trans hf
    refine lv_iload_n hx hb dX6_bottleneck_6 rfl (lv_at hl 3 rfl) ?_
    refine lv_sipush (v := 140) hx hb dX6_bottleneck_7 rfl ?_
    refine lv_icmp_ge (tgt := 44) hx hb dX6_bottleneck_10 rfl (fun hc => ?_) (fun hc => ?_)
    · have hf := ite_t hf hc
      refine lv_iload_n hx hb dX6_bottleneck_44 rfl (lv_at hl 1 rfl) ?_
      refine lv_iconst (v := (-1)) hx hb dX6_bottleneck_45 rfl ?_
      refine lv_icmp_ne (tgt := 60) hx hb dX6_bottleneck_46 rfl (fun hc => ?_) (fun hc => ?_)
      · have hf := ite_f hf hc
        refine lv_bipush (v := 100) hx hb dX6_bottleneck_60 rfl ?_
        refine lv_iload_n hx hb dX6_bottleneck_62 rfl (lv_at hl 1 rfl) ?_
        refine sc_R hf (rS_S (As := [.int x1]) (rest := [.int 100]) E (mX6_rowOf l x1) (cwGS 1 okX6_rowOf wmX6_194 hts rfl rfl ⟨Nat.le_of_ble_eq_true rfl, Nat.le_of_ble_eq_true rfl⟩) rfl hl.1 (Nat.le_of_ble_eq_true rfl) dX6_bottleneck_63 (aC he (Nat.le_add_right _ _) (Nat.le_add_right _ _)) rfl) (fun y1 hf => ?_)
        refine lv_imul hx hb dX6_bottleneck_66 ?_
        refine lv_iload_n hx hb dX6_bottleneck_67 rfl (lv_at hl 1 rfl) ?_
        refine sc_R hf (rS_S (As := [.int x1]) (rest := [.int (100 * y1)]) E (mX6_columnOf l x1) (cwGS 1 okX6_columnOf wmX6_191 hts rfl rfl ⟨Nat.le_of_ble_eq_true rfl, Nat.le_of_ble_eq_true rfl⟩) rfl hl.1 (Nat.le_of_ble_eq_true rfl) dX6_bottleneck_68 (aC he (Nat.le_add_right _ _) (Nat.le_add_right _ _)) rfl) (fun y2 hf => ?_)
        refine lv_iadd hx hb dX6_bottleneck_71 ?_
        exact s_iretT E hrt hlocks hB hgo hf he dX6_bottleneck_72
      · have hf := ite_t hf hc
        exact s_thrWN E hU hst hZ htab hlocks hB hgo hl.1 sxk4 (List.mem_of_getElem? (i := 11) rfl) dX6_bottleneck_49 dX6_bottleneck_52 dX6_bottleneck_53 dX6_bottleneck_56 dX6_bottleneck_59 (Nat.le_of_ble_eq_true rfl) (Nat.le_of_ble_eq_true rfl) ⟨Nat.le_refl _, Nat.le_refl _⟩ hf he
    · have hf := ite_f hf hc
      refine lv_aload_n hx hb dX6_bottleneck_13 rfl (lv_at hl 0 rfl) ?_
      refine s_getR (k := 0) (t := 1) E hU hB.1 sc8 (slt hsh hn 0 rfl) rfl inlX6 (Nat.le_of_ble_eq_true rfl) rfl rfl wkX6_12 (hsh.1 0 0 1 rfl) dX6_bottleneck_14 ?_
      refine s_getR (k := 1) (t := 3) E hU hB.1 sc7 (slt hsh hn 1 rfl) rfl inlX5 (Nat.le_of_ble_eq_true rfl) rfl rfl wkX6_94 (hsh.1 1 1 3 rfl) dX6_bottleneck_17 ?_
      refine lv_iload_n hx hb dX6_bottleneck_20 rfl (lv_at hl 3 rfl) ?_
      refine s_iald E hU hB.1 (slt hsh hn 3 rfl) rfl dX6_bottleneck_21 hf (fun y3 hf => ?_)
      refine lv_iload_n hx hb dX6_bottleneck_22 rfl (lv_at hl 2 rfl) ?_
      refine lv_icmp_le (tgt := 38) hx hb dX6_bottleneck_23 rfl (fun hc => ?_) (fun hc => ?_)
      · have hf := ite_t hf hc
        obtain ⟨z4, ez9, hf⟩ := nm_x hf
        refine lv_iinc (v := z4) (lv' := [(3, .int z4), (0, .ref (ad 0)), (1, .int x1), (2, .int x2)]) hx hb dX6_bottleneck_38 hl (k := 3) rfl (by rw [ez9]; rfl) (Nat.le_of_ble_eq_true rfl) rfl (fun ls hl => ?_)
        refine lv_goto (tgt := 6) hx hb dX6_bottleneck_41 rfl ?_
        exact ih _ _ _ _ _ _ _ _ _ _ _ hsh hn hgo hf he hB (lv_sub hl [1, 2, 3, 0] rfl)
      · have hf := ite_f hf hc
        refine lv_iload_n hx hb dX6_bottleneck_26 rfl (lv_at hl 3 rfl) ?_
        refine lv_istore_n (lv' := [(1, .int x3), (0, .ref (ad 0)), (2, .int x2), (3, .int x3)]) hx hb dX6_bottleneck_27 rfl hl (Nat.le_of_ble_eq_true rfl) rfl (fun ls hl => ?_)
        refine lv_aload_n hx hb dX6_bottleneck_28 rfl (lv_at hl 1 rfl) ?_
        refine s_getR (k := 0) (t := 1) E hU hB.1 sc8 (slt hsh hn 0 rfl) rfl inlX6 (Nat.le_of_ble_eq_true rfl) rfl rfl wkX6_12 (hsh.1 0 0 1 rfl) dX6_bottleneck_29 ?_
        refine s_getR (k := 1) (t := 3) E hU hB.1 sc7 (slt hsh hn 1 rfl) rfl inlX5 (Nat.le_of_ble_eq_true rfl) rfl rfl wkX6_94 (hsh.1 1 1 3 rfl) dX6_bottleneck_32 ?_
        refine lv_iload_n hx hb dX6_bottleneck_35 rfl (lv_at hl 3 rfl) ?_
        refine s_iald E hU hB.1 (slt hsh hn 3 rfl) rfl dX6_bottleneck_36 hf (fun y5 hf => ?_)
        refine lv_istore_n (lv' := [(2, .int y5), (1, .int x3), (0, .ref (ad 0)), (3, .int x3)]) hx hb dX6_bottleneck_37 rfl hl (Nat.le_of_ble_eq_true rfl) rfl (fun ls hl => ?_)
        obtain ⟨z6, ez9, hf⟩ := nm_x hf
        refine lv_iinc (v := z6) (lv' := [(3, .int z6), (2, .int y5), (1, .int x3), (0, .ref (ad 0))]) hx hb dX6_bottleneck_38 hl (k := 3) rfl (by rw [ez9]; rfl) (Nat.le_of_ble_eq_true rfl) rfl (fun ls hl => ?_)
        refine lv_goto (tgt := 6) hx hb dX6_bottleneck_41 rfl ?_
        exact ih _ _ _ _ _ _ _ _ _ _ _ hsh hn hgo hf he hB (lv_sub hl [3, 2, 1, 0] rfl)
set_option maxRecDepth 100000 in
set_option maxHeartbeats 4000000 in
theorem mX6_bottleneck (l : Launch) (K : Nat) (hst : l.stackTraces = false) (D : va_G) (G : Nat → ClassId) (ad : Nat → Nat) (r : sR) (v : sV) (n : Nat) (x : Int64 × UInt64) (hsh : sSh r) (hn : 172 ≤ n) : sMT sQTi l yX6_bottleneck (.code yX6_bottleneck cX6_bottleneck 4 (some .int) :: wsL_law) rmX6_bottleneck D G ad r v n x [.ref (ad 0)] (fX6_bottleneck K r v n) := by
  intro sz0 q0 hf
  obtain ⟨fin, he⟩ : ∃ fin, fin = fz n q0 := ⟨_, rfl⟩
  rw [← he]
  refine vx_ofW (cc := cX6_bottleneck) (maxL := 4) (ret := (some .int)) (by decide) rfl ?_
  intro p e s m args below meth c s₁ B hml htab hv
  obtain ⟨hargs, rfl, hU, hP, hD, hZ⟩ := hv
  have hx := B.exec
  have hb := B.bytes
  have hrt := B.returns
  have hts : ∀ w ∈ wsL_law, w.before args s = true := fun w hw => atoms_spec (ws := .code yX6_bottleneck cX6_bottleneck 4 (some .int) :: wsL_law) B.pre w (List.mem_cons_of_mem _ hw)
  have hlocks := B.notSynchronized
  have E : CallFix p m c cX6_bottleneck 4 s args wsL_law RX6 := ⟨hx, hb, hml, findClass_of_methodNamed B.named, hts⟩
  have hB : sB D G (sA ad r n s.heap.size) s.heap ad r v n x s.heap [] := ⟨hP, sD_self hD, va_S.rf⟩
  have hgo : sGo r n ad r n ad := sGo.rf
  have h0 : n ≤ n := Nat.le_refl n
  have hl := lv_entry ([.ref (ad 0)]) (n := 4) (Nat.le_of_ble_eq_true rfl)
  refine W.eq (g2 := F0 m 0 ((lg_sl ([.ref (ad 0)]) ++ List.replicate (4 - (lg_sl ([.ref (ad 0)])).length) Slot.unset).toArray) []) (by rw [hargs]; exact lg_entry_eq _ _ _) ?_
  generalize (lg_sl ([.ref (ad 0)]) ++ List.replicate (4 - (lg_sl ([.ref (ad 0)])).length) Slot.unset).toArray = ls at hl ⊢
  have hl : lv_has ls 4 [(0, .ref (ad 0))] := hl
  refine W_00 (n := n) ?_
  have hf := (fX6_bottleneck.eq_1 ..).symm.trans hf
  refine lv_iconst (v := (-1)) hx hb dX6_bottleneck_0 rfl ?_
  refine lv_istore_n (lv' := [(1, .int (-1)), (0, .ref (ad 0))]) hx hb dX6_bottleneck_1 rfl hl (Nat.le_of_ble_eq_true rfl) rfl (fun ls hl => ?_)
  refine lv_iconst (v := 0) hx hb dX6_bottleneck_2 rfl ?_
  refine lv_istore_n (lv' := [(2, .int 0), (1, .int (-1)), (0, .ref (ad 0))]) hx hb dX6_bottleneck_3 rfl hl (Nat.le_of_ble_eq_true rfl) rfl (fun ls hl => ?_)
  refine lv_iconst (v := 0) hx hb dX6_bottleneck_4 rfl ?_
  refine lv_istore_n (lv' := [(3, .int 0), (2, .int 0), (1, .int (-1)), (0, .ref (ad 0))]) hx hb dX6_bottleneck_5 rfl hl (Nat.le_of_ble_eq_true rfl) rfl (fun ls hl => ?_)
  exact lX6_bottleneck_6 E hlocks hrt hU hst hZ htab _ _ _ _ _ _ _ _ _ _ _ _ hsh hn hgo hf he hB (lv_sub hl [3, 2, 1, 0] rfl)
abbrev rmX6_jam (c s : Nat) : Room := { frames := 8, cells := c, slots := s, locals := 200 }
set_option maxRecDepth 100000 in
set_option maxHeartbeats 4000000 in
theorem mX6_jam (l : Launch) (K : Nat) (hst : l.stackTraces = false) (D : va_G) (G : Nat → ClassId) (ad : Nat → Nat) (r : sR) (v : sV) (n : Nat) (x : Int64 × UInt64) (hsh : sSh r) (hn : 172 ≤ n) (x1 : Int32) (x2 : Int32) : sMT sQTi l yX6_jam (.code yX6_jam cX6_jam 4 (some .int) :: wsL_law) rmX6_jam D G ad r v n x [.ref (ad 0), .int x1, .int x2] (fX6_jam K x1 x2 r v n) := by
  intro sz0 q0 hf
  obtain ⟨fin, he⟩ : ∃ fin, fin = fz n q0 := ⟨_, rfl⟩
  rw [← he]
  refine vx_ofW (cc := cX6_jam) (maxL := 4) (ret := (some .int)) (by decide) rfl ?_
  intro p e s m args below meth c s₁ B hml htab hv
  obtain ⟨hargs, rfl, hU, hP, hD, hZ⟩ := hv
  have hx := B.exec
  have hb := B.bytes
  have hrt := B.returns
  have hts : ∀ w ∈ wsL_law, w.before args s = true := fun w hw => atoms_spec (ws := .code yX6_jam cX6_jam 4 (some .int) :: wsL_law) B.pre w (List.mem_cons_of_mem _ hw)
  have hlocks := B.notSynchronized
  have E : CallFix p m c cX6_jam 4 s args wsL_law RX6 := ⟨hx, hb, hml, findClass_of_methodNamed B.named, hts⟩
  have hB : sB D G (sA ad r n s.heap.size) s.heap ad r v n x s.heap [] := ⟨hP, sD_self hD, va_S.rf⟩
  have hgo : sGo r n ad r n ad := sGo.rf
  have h0 : n ≤ n := Nat.le_refl n
  have hl := lv_entry ([.ref (ad 0), .int x1, .int x2]) (n := 4) (Nat.le_of_ble_eq_true rfl)
  refine W.eq (g2 := F0 m 0 ((lg_sl ([.ref (ad 0), .int x1, .int x2]) ++ List.replicate (4 - (lg_sl ([.ref (ad 0), .int x1, .int x2])).length) Slot.unset).toArray) []) (by rw [hargs]; exact lg_entry_eq _ _ _) ?_
  generalize (lg_sl ([.ref (ad 0), .int x1, .int x2]) ++ List.replicate (4 - (lg_sl ([.ref (ad 0), .int x1, .int x2])).length) Slot.unset).toArray = ls at hl ⊢
  have hl : lv_has ls 4 [(0, .ref (ad 0)), (1, .int x1), (2, .int x2)] := hl
  refine W_00 (n := n) ?_
  have hf := (fX6_jam.eq_1 ..).symm.trans hf
  refine lv_aload_n hx hb dX6_jam_0 rfl (lv_at hl 0 rfl) ?_
  refine s_getR (k := 2) (t := 20) E hU hB.1 sc8 (slt hsh hn 0 rfl) rfl inlX6 (Nat.le_of_ble_eq_true rfl) rfl rfl wkX6_28 (hsh.1 0 2 20 rfl) dX6_jam_1 ?_
  refine lv_iload_n hx hb dX6_jam_4 rfl (lv_at hl 1 rfl) ?_
  refine sc_R hf (rV_R (As := [.int x1]) (rest := []) E hU hB.1 sc2 (slt hsh hn 20 rfl) rfl (mX0_jamNumber l K D G ad r _ n x hsh hn 20 1 (Or.inl ⟨rfl, rfl⟩) x1) (cwGV 1 okX0_jamNumber wmX6_284 hts rfl rfl ⟨Nat.le_of_ble_eq_true rfl, Nat.le_of_ble_eq_true rfl⟩) rfl hl.1 (Nat.le_of_ble_eq_true rfl) dX6_jam_5 (aC he (Nat.le_add_right _ _) (Nat.le_add_right _ _)) rfl) (fun y1 hf => ?_)
  refine lv_istore_n (lv' := [(3, .int y1), (0, .ref (ad 0)), (1, .int x1), (2, .int x2)]) hx hb dX6_jam_8 rfl hl (Nat.le_of_ble_eq_true rfl) rfl (fun ls hl => ?_)
  refine lv_iload_n hx hb dX6_jam_9 rfl (lv_at hl 0 rfl) ?_
  refine lv_if_ne (tgt := 24) hx hb dX6_jam_10 rfl (fun hc => ?_) (fun hc => ?_)
  · have hf := ite_f hf hc
    refine lv_iload_n hx hb dX6_jam_24 rfl (lv_at hl 3 rfl) ?_
    by_cases hc0 : x2 = 0
    · have hf := ite_t hf hc0
      refine s_tsw (k := 0) (tgt := 56) hx hb dX6_jam_25 hc0 (by decide) (by decide) rfl rfl ?_
      refine lv_iload_n hx hb dX6_jam_56 rfl (lv_at hl 0 rfl) ?_
      exact s_iretT E hrt hlocks hB hgo hf he dX6_jam_57
    have hf := ite_f hf hc0
    by_cases hc1 : x2 = 1
    · have hf := ite_t hf hc1
      refine s_tsw (k := 1) (tgt := 58) hx hb dX6_jam_25 hc1 (by decide) (by decide) rfl rfl ?_
      refine lv_iload_n hx hb dX6_jam_58 rfl (lv_at hl 0 rfl) ?_
      refine sc_R hf (rS_S (As := [.int y1]) (rest := []) E (mJ6_bitCount_0f7a4 l y1) (cwGS 1 okJ6_bitCount_0f7a4 wmX6_180 hts rfl rfl ⟨Nat.le_of_ble_eq_true rfl, Nat.le_of_ble_eq_true rfl⟩) rfl hl.1 (Nat.le_of_ble_eq_true rfl) dX6_jam_59 (aC he (Nat.le_add_right _ _) (Nat.le_add_right _ _)) rfl) (fun y2 hf => ?_)
      exact s_iretT E hrt hlocks hB hgo hf he dX6_jam_62
    have hf := ite_f hf hc1
    by_cases hc2 : x2 = 2
    · have hf := ite_t hf hc2
      refine s_tsw (k := 2) (tgt := 63) hx hb dX6_jam_25 hc2 (by decide) (by decide) rfl rfl ?_
      refine lv_aload_n hx hb dX6_jam_63 rfl (lv_at hl 1 rfl) ?_
      refine s_getR (k := 2) (t := 20) E hU hB.1 sc8 (slt hsh hn 0 rfl) rfl inlX6 (Nat.le_of_ble_eq_true rfl) rfl rfl wkX6_28 (hsh.1 0 2 20 rfl) dX6_jam_64 ?_
      refine lv_iload_n hx hb dX6_jam_67 rfl (lv_at hl 0 rfl) ?_
      refine sc_R hf (rV_R (As := [.int y1]) (rest := []) E hU hB.1 sc2 (slt hsh hn 20 rfl) rfl (mX0_sumOfWaits l K D G ad r _ n x hsh hn 20 1 (Or.inl ⟨rfl, rfl⟩) y1) (cwGV 1 okX0_sumOfWaits wmX6_292 hts rfl rfl ⟨Nat.le_of_ble_eq_true rfl, Nat.le_of_ble_eq_true rfl⟩) rfl hl.1 (Nat.le_of_ble_eq_true rfl) dX6_jam_68 (aC he (Nat.le_add_right _ _) (Nat.le_add_right _ _)) rfl) (fun y3 hf => ?_)
      exact s_iretT E hrt hlocks hB hgo hf he dX6_jam_71
    have hf := ite_f hf hc2
    by_cases hc3 : x2 = 3
    · have hf := ite_t hf hc3
      refine s_tsw (k := 3) (tgt := 72) hx hb dX6_jam_25 hc3 (by decide) (by decide) rfl rfl ?_
      refine lv_aload_n hx hb dX6_jam_72 rfl (lv_at hl 1 rfl) ?_
      refine s_getR (k := 2) (t := 20) E hU hB.1 sc8 (slt hsh hn 0 rfl) rfl inlX6 (Nat.le_of_ble_eq_true rfl) rfl rfl wkX6_28 (hsh.1 0 2 20 rfl) dX6_jam_73 ?_
      refine lv_iload_n hx hb dX6_jam_76 rfl (lv_at hl 0 rfl) ?_
      refine sc_R hf (rV_R (As := [.int y1]) (rest := []) E hU hB.1 sc2 (slt hsh hn 20 rfl) rfl (mX0_freeCellsAround l K D G ad r _ n x hsh hn 20 1 (Or.inl ⟨rfl, rfl⟩) y1) (cwGV 1 okX0_freeCellsAround wmX6_295 hts rfl rfl ⟨Nat.le_of_ble_eq_true rfl, Nat.le_of_ble_eq_true rfl⟩) rfl hl.1 (Nat.le_of_ble_eq_true rfl) dX6_jam_77 (aC he (Nat.le_add_right _ _) (Nat.le_add_right _ _)) rfl) (fun y4 hf => ?_)
      exact s_iretT E hrt hlocks hB hgo hf he dX6_jam_80
    have hf := ite_f hf hc3
    refine lv_tableOut (tgt := 81) hx hb dX6_jam_25 (by have h0 := ni_ hc0 (z := 0) (by decide); have h1 := ni_ hc1 (z := 1) (by decide); have h2 := ni_ hc2 (z := 2) (by decide); have h3 := ni_ hc3 (z := 3) (by decide); omega) rfl ?_
    exact s_thrW E hU hst hZ htab hlocks hB hgo hl.1 sxk2 (List.mem_of_getElem? (i := 13) rfl) dX6_jam_81 dX6_jam_84 dX6_jam_85 dX6_jam_88 dX6_jam_91 (Nat.le_of_ble_eq_true rfl) (Nat.le_of_ble_eq_true rfl) ⟨Nat.le_refl _, Nat.le_refl _⟩ hf he
  · have hf := ite_t hf hc
    exact s_thrW E hU hst hZ htab hlocks hB hgo hl.1 sxk1 (List.mem_of_getElem? (i := 12) rfl) dX6_jam_13 dX6_jam_16 dX6_jam_17 dX6_jam_20 dX6_jam_23 (Nat.le_of_ble_eq_true rfl) (Nat.le_of_ble_eq_true rfl) ⟨Nat.le_refl _, Nat.le_refl _⟩ hf he
abbrev rmX6_meanDistance (c s : Nat) : Room := { frames := 8, cells := c, slots := s, locals := 200 }
set_option maxRecDepth 100000 in
set_option maxHeartbeats 4000000 in
theorem wX6_meanDistance_35 {K : Nat} {x1 : Int32} {x2 : Int32} {x3 : Int32} {t0 : Int32} {k6 : Int32 → Int32 → Int32 → sR → sV → Nat → Option (Sum UInt64 Nat × sR × sV × Nat)} {ad0 ad : Nat → Nat} {n0 n : Nat} {r0 r : sR} {v : sV} {H : Heap} {locs : List Loc} {ls : Array Slot} {fin rez : (Sum UInt64 Nat × sR × sV × Nat)} (E : CallFix p m c cX6_meanDistance 5 s args wsL_law RX6) (hlocks : meth.locks = false) (hrt : meth.sig.returnType = (some .double)) (hU : sU D G s) (hst : l.stackTraces = false) (hZ : sZ (sA ad0 r0 n0 s.heap.size) s) (htab : ∀ x ∈ c.exceptionTable.toList, False) (ih6 : ∀ (x1 : Int32) (x2 : Int32) (x3 : Int32) (r : sR) (v : sV) (n : Nat) (ad : Nat → Nat) (H : Heap) (locs : List Loc) (ls : Array Slot) (rez : (Sum UInt64 Nat × sR × sV × Nat)), sSh r → 172 ≤ n → sGo r0 n0 ad0 r n ad → k6 x1 x2 x3 r v n = some rez → fin = fz n rez → sB D G (sA ad0 r0 n0 s.heap.size) s.heap ad r v n x H locs → lv_has ls 5 [(0, .ref (ad 0)), (1, .int x1), (2, .int x2), (3, .int x3)] → W p l e (rmX6_meanDistance (mcT n0 fin) (msT n0 fin)) s m args below meth c H locs (n - n0) (sz n - sz n0) (vx_MQ below (sQTd D G ad0 r0 n0 x s.heap.size fin) (sXC D G ad0 r0 n0 x s.heap.size fin) args s (mcT n0 fin) (msT n0 fin) (sA ad0 r0 n0 s.heap.size)) (F0 m 6 ls [])) (hsh : sSh r) (hn : 172 ≤ n) (hgo : sGo r0 n0 ad0 r n ad) (hf : bX6_meanDistance_35 K k6 x1 x2 x3 t0 r v n = some rez) (he : fin = fz n rez) (hB : sB D G (sA ad0 r0 n0 s.heap.size) s.heap ad r v n x H locs) (hl : lv_has ls 5 [(0, .ref (ad 0)), (1, .int x1), (2, .int x2), (3, .int x3)]) :
    W p l e (rmX6_meanDistance (mcT n0 fin) (msT n0 fin)) s m args below meth c H locs (n - n0) (sz n - sz n0) (vx_MQ below (sQTd D G ad0 r0 n0 x s.heap.size fin) (sXC D G ad0 r0 n0 x s.heap.size fin) args s (mcT n0 fin) (msT n0 fin) (sA ad0 r0 n0 s.heap.size)) (F0 m 35 ls [.int t0]) := by
  have hx := E.1
  have hb := E.2.1
  have hts := E.2.2.2.2
  have h0 := hgo.1
  have hf := (bX6_meanDistance_35.eq_1 ..).symm.trans hf
  refine lv_istore (lv' := [(4, .int t0), (0, .ref (ad 0)), (1, .int x1), (2, .int x2), (3, .int x3)]) hx hb dX6_meanDistance_35 hl (Nat.le_of_ble_eq_true rfl) rfl (fun ls hl => ?_)
  refine lv_iload hx hb dX6_meanDistance_37 (lv_at hl 0 rfl) ?_
  refine lv_iconst (v := (-1)) hx hb dX6_meanDistance_39 rfl ?_
  refine lv_icmp_eq (tgt := 51) hx hb dX6_meanDistance_40 rfl (fun hc => ?_) (fun hc => ?_)
  · have hf := ite_t hf hc
    obtain ⟨z3, ez9, hf⟩ := nm_x hf
    refine lv_iinc (v := z3) (lv' := [(3, .int z3), (4, .int t0), (0, .ref (ad 0)), (1, .int x1), (2, .int x2)]) hx hb dX6_meanDistance_51 hl (k := 4) rfl (by rw [ez9]; rfl) (Nat.le_of_ble_eq_true rfl) rfl (fun ls hl => ?_)
    refine lv_goto (tgt := 6) hx hb dX6_meanDistance_54 rfl ?_
    exact ih6 _ _ _ _ _ _ _ _ _ _ _ hsh hn hgo hf he hB (lv_sub hl [2, 3, 4, 0] rfl)
  · have hf := ite_f hf hc
    refine lv_iload_n hx hb dX6_meanDistance_43 rfl (lv_at hl 2 rfl) ?_
    refine lv_iload hx hb dX6_meanDistance_44 (lv_at hl 0 rfl) ?_
    refine lv_iadd hx hb dX6_meanDistance_46 ?_
    refine s_nm hf (fun z4 hf => ?_)
    refine lv_istore_n (lv' := [(1, .int z4), (4, .int t0), (0, .ref (ad 0)), (2, .int x2), (3, .int x3)]) hx hb dX6_meanDistance_47 rfl hl (Nat.le_of_ble_eq_true rfl) rfl (fun ls hl => ?_)
    obtain ⟨z5, ez9, hf⟩ := nm_x hf
    refine lv_iinc (v := z5) (lv' := [(2, .int z5), (1, .int z4), (4, .int t0), (0, .ref (ad 0)), (3, .int x3)]) hx hb dX6_meanDistance_48 hl (k := 3) rfl (by rw [ez9]; rfl) (Nat.le_of_ble_eq_true rfl) rfl (fun ls hl => ?_)
    obtain ⟨z6, ez9, hf⟩ := nm_x hf
    refine lv_iinc (v := z6) (lv' := [(3, .int z6), (2, .int z5), (1, .int z4), (4, .int t0), (0, .ref (ad 0))]) hx hb dX6_meanDistance_51 hl (k := 4) rfl (by rw [ez9]; rfl) (Nat.le_of_ble_eq_true rfl) rfl (fun ls hl => ?_)
    refine lv_goto (tgt := 6) hx hb dX6_meanDistance_54 rfl ?_
    exact ih6 _ _ _ _ _ _ _ _ _ _ _ hsh hn hgo hf he hB (lv_sub hl [4, 2, 1, 0] rfl)
set_option maxRecDepth 100000 in
set_option maxHeartbeats 4000000 in
theorem lX6_meanDistance_6 {K : Nat} {ad0 : Nat → Nat} {r0 : sR} {n0 : Nat} {fin : (Sum UInt64 Nat × sR × sV × Nat)} (E : CallFix p m c cX6_meanDistance 5 s args wsL_law RX6) (hlocks : meth.locks = false) (hrt : meth.sig.returnType = (some .double)) (hU : sU D G s) (hst : l.stackTraces = false) (hZ : sZ (sA ad0 r0 n0 s.heap.size) s) (htab : ∀ x ∈ c.exceptionTable.toList, False) :
    ∀ (k : Nat) (x1 : Int32) (x2 : Int32) (x3 : Int32) (r : sR) (v : sV) (n : Nat) (ad : Nat → Nat) (H : Heap) (locs : List Loc) (ls : Array Slot) (rez : (Sum UInt64 Nat × sR × sV × Nat)), sSh r → 172 ≤ n → sGo r0 n0 ad0 r n ad → fx6 (gX6_meanDistance_6 K) k x1 x2 x3 r v n = some rez → fin = fz n rez → sB D G (sA ad0 r0 n0 s.heap.size) s.heap ad r v n x H locs → lv_has ls 5 [(0, .ref (ad 0)), (1, .int x1), (2, .int x2), (3, .int x3)] → W p l e (rmX6_meanDistance (mcT n0 fin) (msT n0 fin)) s m args below meth c H locs (n - n0) (sz n - sz n0) (vx_MQ below (sQTd D G ad0 r0 n0 x s.heap.size fin) (sXC D G ad0 r0 n0 x s.heap.size fin) args s (mcT n0 fin) (msT n0 fin) (sA ad0 r0 n0 s.heap.size)) (F0 m 6 ls []) := by
  have hx := E.1
  have hb := E.2.1
  have hts := E.2.2.2.2
  intro k
  induction k with
  | zero =>
    intro x1 x2 x3 r v n ad H locs ls rez hsh hn hgo hf he hB hl
    exact fx6_z hf
  | succ k ih =>
    intro x1 x2 x3 r v n ad H locs ls rez hsh hn hgo hf he hB hl
    have h0 := hgo.1
    have hf := (gX6_meanDistance_6.eq_1 ..).symm.trans hf
    refine lv_iload_n hx hb dX6_meanDistance_6 rfl (lv_at hl 3 rfl) ?_
    refine lv_bipush (v := 16) hx hb dX6_meanDistance_7 rfl ?_
    refine lv_icmp_ge (tgt := 57) hx hb dX6_meanDistance_9 rfl (fun hc => ?_) (fun hc => ?_)
    · have hf := ite_t hf hc
      refine lv_iload_n hx hb dX6_meanDistance_57 rfl (lv_at hl 2 rfl) ?_
      refine lv_if_ne (tgt := 72) hx hb dX6_meanDistance_58 rfl (fun hc => ?_) (fun hc => ?_)
      · have hf := ite_f hf hc
        refine lv_iload_n hx hb dX6_meanDistance_72 rfl (lv_at hl 1 rfl) ?_
        refine lv_i2d hx hb dX6_meanDistance_73 ?_
        refine lv_iload_n hx hb dX6_meanDistance_74 rfl (lv_at hl 2 rfl) ?_
        refine lv_i2d hx hb dX6_meanDistance_75 ?_
        refine s_ddiv E dX6_meanDistance_76 hf (fun y1 hf => ?_)
        exact s_dretT E hrt hlocks hB hgo hf he dX6_meanDistance_77
      · have hf := ite_t hf hc
        exact s_thrW E hU hst hZ htab hlocks hB hgo hl.1 sxk5 (List.mem_of_getElem? (i := 14) rfl) dX6_meanDistance_61 dX6_meanDistance_64 dX6_meanDistance_65 dX6_meanDistance_68 dX6_meanDistance_71 (Nat.le_of_ble_eq_true rfl) (Nat.le_of_ble_eq_true rfl) ⟨Nat.le_refl _, Nat.le_refl _⟩ hf he
    · have hf := ite_f hf hc
      refine lv_aload_n hx hb dX6_meanDistance_12 rfl (lv_at hl 0 rfl) ?_
      refine s_getR (k := 2) (t := 20) E hU hB.1 sc8 (slt hsh hn 0 rfl) rfl inlX6 (Nat.le_of_ble_eq_true rfl) rfl rfl wkX6_28 (hsh.1 0 2 20 rfl) dX6_meanDistance_13 ?_
      refine lv_iload_n hx hb dX6_meanDistance_16 rfl (lv_at hl 3 rfl) ?_
      refine sc_R hf (rV_R (As := [.int x3]) (rest := []) E hU hB.1 sc2 (slt hsh hn 20 rfl) rfl (mX0_exists l D G ad r _ n x hsh hn 20 1 (Or.inl ⟨rfl, rfl⟩) x3) (cwGV 1 okX0_exists wmX6_127 hts rfl rfl ⟨Nat.le_of_ble_eq_true rfl, Nat.le_of_ble_eq_true rfl⟩) rfl hl.1 (Nat.le_of_ble_eq_true rfl) dX6_meanDistance_17 (aC he (Nat.le_add_right _ _) (Nat.le_add_right _ _)) rfl) (fun y2 hf => ?_)
      refine lv_if_eq (tgt := 34) hx hb dX6_meanDistance_20 rfl (fun hc => ?_) (fun hc => ?_)
      · have hf := ite_t hf hc
        refine lv_iconst (v := (-1)) hx hb dX6_meanDistance_34 rfl ?_
        exact wX6_meanDistance_35 E hlocks hrt hU hst hZ htab ih hsh hn hgo hf he hB (lv_sub hl [0, 1, 2, 3] rfl)
      · have hf := ite_f hf hc
        refine lv_aload_n hx hb dX6_meanDistance_23 rfl (lv_at hl 0 rfl) ?_
        refine s_getR (k := 2) (t := 20) E hU hB.1 sc8 (slt hsh hn 0 rfl) rfl inlX6 (Nat.le_of_ble_eq_true rfl) rfl rfl wkX6_28 (hsh.1 0 2 20 rfl) dX6_meanDistance_24 ?_
        refine lv_iload_n hx hb dX6_meanDistance_27 rfl (lv_at hl 3 rfl) ?_
        refine sc_Ai hB (fun q h => Or.inr h) h0 ⟨Nat.le_add_right _ _, Nat.le_add_right _ _⟩ hf he (fun q9 h9 hc9 => rV_A (As := [.int x3]) (rest := []) E hU hB sc2 (slt hsh hn 20 rfl) rfl (mX0_distanceLeft l K D G ad r _ n x hsh hn 20 1 (Or.inl ⟨rfl, rfl⟩) x3 _ _ h9) (cwGV 1 okX0_distanceLeft wmX6_209 hts rfl rfl ⟨Nat.le_of_ble_eq_true rfl, Nat.le_of_ble_eq_true rfl⟩) rfl hl.1 (Nat.le_of_ble_eq_true rfl) dX6_meanDistance_28 hc9 rfl) (fun y7 rr7 v7 n7 rez hf he ad7 hg7 h0 H locs hB => ?_)
        have hl : lv_has ls 5 [(0, .ref (ad7 0)), (1, .int x1), (2, .int x2), (3, .int x3)] := by rw [(hg7.2 (0) (slt hsh hn 0 rfl)).2]; exact hl
        have hn : 172 ≤ n7 := Nat.le_trans hn hg7.1
        have hgo := hgo.trans hg7
        obtain ⟨hsh, hf⟩ := ck_e hf
        refine lv_goto (tgt := 35) hx hb dX6_meanDistance_31 rfl ?_
        exact wX6_meanDistance_35 E hlocks hrt hU hst hZ htab ih hsh hn hgo hf he hB (lv_sub hl [0, 1, 2, 3] rfl)
set_option maxRecDepth 100000 in
set_option maxHeartbeats 4000000 in
theorem mX6_meanDistance (l : Launch) (K : Nat) (hst : l.stackTraces = false) (D : va_G) (G : Nat → ClassId) (ad : Nat → Nat) (r : sR) (v : sV) (n : Nat) (x : Int64 × UInt64) (hsh : sSh r) (hn : 172 ≤ n) : sMT sQTd l yX6_meanDistance (.code yX6_meanDistance cX6_meanDistance 5 (some .double) :: wsL_law) rmX6_meanDistance D G ad r v n x [.ref (ad 0)] (fX6_meanDistance K r v n) := by
  intro sz0 q0 hf
  obtain ⟨fin, he⟩ : ∃ fin, fin = fz n q0 := ⟨_, rfl⟩
  rw [← he]
  refine vx_ofW (cc := cX6_meanDistance) (maxL := 5) (ret := (some .double)) (by decide) rfl ?_
  intro p e s m args below meth c s₁ B hml htab hv
  obtain ⟨hargs, rfl, hU, hP, hD, hZ⟩ := hv
  have hx := B.exec
  have hb := B.bytes
  have hrt := B.returns
  have hts : ∀ w ∈ wsL_law, w.before args s = true := fun w hw => atoms_spec (ws := .code yX6_meanDistance cX6_meanDistance 5 (some .double) :: wsL_law) B.pre w (List.mem_cons_of_mem _ hw)
  have hlocks := B.notSynchronized
  have E : CallFix p m c cX6_meanDistance 5 s args wsL_law RX6 := ⟨hx, hb, hml, findClass_of_methodNamed B.named, hts⟩
  have hB : sB D G (sA ad r n s.heap.size) s.heap ad r v n x s.heap [] := ⟨hP, sD_self hD, va_S.rf⟩
  have hgo : sGo r n ad r n ad := sGo.rf
  have h0 : n ≤ n := Nat.le_refl n
  have hl := lv_entry ([.ref (ad 0)]) (n := 5) (Nat.le_of_ble_eq_true rfl)
  refine W.eq (g2 := F0 m 0 ((lg_sl ([.ref (ad 0)]) ++ List.replicate (5 - (lg_sl ([.ref (ad 0)])).length) Slot.unset).toArray) []) (by rw [hargs]; exact lg_entry_eq _ _ _) ?_
  generalize (lg_sl ([.ref (ad 0)]) ++ List.replicate (5 - (lg_sl ([.ref (ad 0)])).length) Slot.unset).toArray = ls at hl ⊢
  have hl : lv_has ls 5 [(0, .ref (ad 0))] := hl
  refine W_00 (n := n) ?_
  have hf := (fX6_meanDistance.eq_1 ..).symm.trans hf
  refine lv_iconst (v := 0) hx hb dX6_meanDistance_0 rfl ?_
  refine lv_istore_n (lv' := [(1, .int 0), (0, .ref (ad 0))]) hx hb dX6_meanDistance_1 rfl hl (Nat.le_of_ble_eq_true rfl) rfl (fun ls hl => ?_)
  refine lv_iconst (v := 0) hx hb dX6_meanDistance_2 rfl ?_
  refine lv_istore_n (lv' := [(2, .int 0), (1, .int 0), (0, .ref (ad 0))]) hx hb dX6_meanDistance_3 rfl hl (Nat.le_of_ble_eq_true rfl) rfl (fun ls hl => ?_)
  refine lv_iconst (v := 0) hx hb dX6_meanDistance_4 rfl ?_
  refine lv_istore_n (lv' := [(3, .int 0), (2, .int 0), (1, .int 0), (0, .ref (ad 0))]) hx hb dX6_meanDistance_5 rfl hl (Nat.le_of_ble_eq_true rfl) rfl (fun ls hl => ?_)
  exact lX6_meanDistance_6 E hlocks hrt hU hst hZ htab _ _ _ _ _ _ _ _ _ _ _ _ hsh hn hgo hf he hB (lv_sub hl [3, 2, 1, 0] rfl)
abbrev rmX6_density (c s : Nat) : Room := { frames := 8, cells := c, slots := s, locals := 200 }
set_option maxRecDepth 100000 in
set_option maxHeartbeats 4000000 in
theorem lX6_density_4 {K : Nat} {ad0 : Nat → Nat} {r0 : sR} {n0 : Nat} {fin : (Sum UInt32 Nat × sR × sV × Nat)} (E : CallFix p m c cX6_density 3 s args wsL_law RX6) (hlocks : meth.locks = false) (hrt : meth.sig.returnType = (some .float)) (hU : sU D G s) (hst : l.stackTraces = false) (hZ : sZ (sA ad0 r0 n0 s.heap.size) s) (htab : ∀ x ∈ c.exceptionTable.toList, False) :
    ∀ (k : Nat) (x1 : Int32) (x2 : Int32) (r : sR) (v : sV) (n : Nat) (ad : Nat → Nat) (H : Heap) (locs : List Loc) (ls : Array Slot) (rez : (Sum UInt32 Nat × sR × sV × Nat)), sSh r → 172 ≤ n → sGo r0 n0 ad0 r n ad → fx5 (gX6_density_4 K) k x1 x2 r v n = some rez → fin = fz n rez → sB D G (sA ad0 r0 n0 s.heap.size) s.heap ad r v n x H locs → lv_has ls 3 [(0, .ref (ad 0)), (1, .int x1), (2, .int x2)] → W p l e (rmX6_density (mcT n0 fin) (msT n0 fin)) s m args below meth c H locs (n - n0) (sz n - sz n0) (vx_MQ below (sQTf D G ad0 r0 n0 x s.heap.size fin) (sXC D G ad0 r0 n0 x s.heap.size fin) args s (mcT n0 fin) (msT n0 fin) (sA ad0 r0 n0 s.heap.size)) (F0 m 4 ls []) := by
  have hx := E.1
  have hb := E.2.1
  have hts := E.2.2.2.2
  intro k
  induction k with
  | zero =>
    intro x1 x2 r v n ad H locs ls rez hsh hn hgo hf he hB hl
    exact fx5_z hf
  | succ k ih =>
    intro x1 x2 r v n ad H locs ls rez hsh hn hgo hf he hB hl
    have h0 := hgo.1
    have hf := (gX6_density_4.eq_1 ..).symm.trans hf
    refine lv_iload_n hx hb dX6_density_4 rfl (lv_at hl 2 rfl) ?_
    refine lv_sipush (v := 140) hx hb dX6_density_5 rfl ?_
    refine lv_icmp_ge (tgt := 32) hx hb dX6_density_8 rfl (fun hc => ?_) (fun hc => ?_)
    · have hf := ite_t hf hc
      refine lv_iload_n hx hb dX6_density_32 rfl (lv_at hl 1 rfl) ?_
      refine lv_if_ne (tgt := 47) hx hb dX6_density_33 rfl (fun hc => ?_) (fun hc => ?_)
      · have hf := ite_f hf hc
        refine lv_aload_n hx hb dX6_density_47 rfl (lv_at hl 0 rfl) ?_
        refine s_getR (k := 2) (t := 20) E hU hB.1 sc8 (slt hsh hn 0 rfl) rfl inlX6 (Nat.le_of_ble_eq_true rfl) rfl rfl wkX6_28 (hsh.1 0 2 20 rfl) dX6_density_48 ?_
        refine sc_R hf (rV_R (As := []) (rest := []) E hU hB.1 sc2 (slt hsh hn 20 rfl) rfl (mX0_all l K D G ad r _ n x hsh hn 20 1 (Or.inl ⟨rfl, rfl⟩)) (cwGV 0 okX0_all wmX6_177 hts rfl rfl ⟨Nat.le_of_ble_eq_true rfl, Nat.le_of_ble_eq_true rfl⟩) rfl hl.1 (Nat.le_of_ble_eq_true rfl) dX6_density_51 (aC he (Nat.le_add_right _ _) (Nat.le_add_right _ _)) rfl) (fun y1 hf => ?_)
        refine sc_R hf (rS_S (As := [.int y1]) (rest := []) E (mJ6_bitCount_0f7a4 l y1) (cwGS 1 okJ6_bitCount_0f7a4 wmX6_180 hts rfl rfl ⟨Nat.le_of_ble_eq_true rfl, Nat.le_of_ble_eq_true rfl⟩) rfl hl.1 (Nat.le_of_ble_eq_true rfl) dX6_density_54 (aC he (Nat.le_add_right _ _) (Nat.le_add_right _ _)) rfl) (fun y2 hf => ?_)
        refine lv_i2f hx hb dX6_density_57 ?_
        refine lv_iload_n hx hb dX6_density_58 rfl (lv_at hl 1 rfl) ?_
        refine lv_i2f hx hb dX6_density_59 ?_
        refine s_fdiv E dX6_density_60 hf (fun y3 hf => ?_)
        exact s_fretT E hrt hlocks hB hgo hf he dX6_density_61
      · have hf := ite_t hf hc
        exact s_thrW E hU hst hZ htab hlocks hB hgo hl.1 sxk5 (List.mem_of_getElem? (i := 15) rfl) dX6_density_36 dX6_density_39 dX6_density_40 dX6_density_43 dX6_density_46 (Nat.le_of_ble_eq_true rfl) (Nat.le_of_ble_eq_true rfl) ⟨Nat.le_refl _, Nat.le_refl _⟩ hf he
    · have hf := ite_f hf hc
      refine lv_aload_n hx hb dX6_density_11 rfl (lv_at hl 0 rfl) ?_
      refine s_getR (k := 0) (t := 1) E hU hB.1 sc8 (slt hsh hn 0 rfl) rfl inlX6 (Nat.le_of_ble_eq_true rfl) rfl rfl wkX6_12 (hsh.1 0 0 1 rfl) dX6_density_12 ?_
      refine s_getR (k := 0) (t := 2) E hU hB.1 sc7 (slt hsh hn 1 rfl) rfl inlX5 (Nat.le_of_ble_eq_true rfl) rfl rfl wkX6_83 (hsh.1 1 0 2 rfl) dX6_density_15 ?_
      refine lv_iload_n hx hb dX6_density_18 rfl (lv_at hl 2 rfl) ?_
      refine s_iald E hU hB.1 (slt hsh hn 2 rfl) rfl dX6_density_19 hf (fun y4 hf => ?_)
      refine lv_if_eq (tgt := 26) hx hb dX6_density_20 rfl (fun hc => ?_) (fun hc => ?_)
      · have hf := ite_t hf hc
        obtain ⟨z5, ez9, hf⟩ := nm_x hf
        refine lv_iinc (v := z5) (lv' := [(2, .int z5), (0, .ref (ad 0)), (1, .int x1)]) hx hb dX6_density_26 hl (k := 2) rfl (by rw [ez9]; rfl) (Nat.le_of_ble_eq_true rfl) rfl (fun ls hl => ?_)
        refine lv_goto (tgt := 4) hx hb dX6_density_29 rfl ?_
        exact ih _ _ _ _ _ _ _ _ _ _ hsh hn hgo hf he hB (lv_sub hl [1, 2, 0] rfl)
      · have hf := ite_f hf hc
        obtain ⟨z6, ez9, hf⟩ := nm_x hf
        refine lv_iinc (v := z6) (lv' := [(1, .int z6), (0, .ref (ad 0)), (2, .int x2)]) hx hb dX6_density_23 hl (k := 1) rfl (by rw [ez9]; rfl) (Nat.le_of_ble_eq_true rfl) rfl (fun ls hl => ?_)
        obtain ⟨z7, ez9, hf⟩ := nm_x hf
        refine lv_iinc (v := z7) (lv' := [(2, .int z7), (1, .int z6), (0, .ref (ad 0))]) hx hb dX6_density_26 hl (k := 2) rfl (by rw [ez9]; rfl) (Nat.le_of_ble_eq_true rfl) rfl (fun ls hl => ?_)
        refine lv_goto (tgt := 4) hx hb dX6_density_29 rfl ?_
        exact ih _ _ _ _ _ _ _ _ _ _ hsh hn hgo hf he hB (lv_sub hl [2, 1, 0] rfl)
set_option maxRecDepth 100000 in
set_option maxHeartbeats 4000000 in
theorem mX6_density (l : Launch) (K : Nat) (hst : l.stackTraces = false) (D : va_G) (G : Nat → ClassId) (ad : Nat → Nat) (r : sR) (v : sV) (n : Nat) (x : Int64 × UInt64) (hsh : sSh r) (hn : 172 ≤ n) : sMT sQTf l yX6_density (.code yX6_density cX6_density 3 (some .float) :: wsL_law) rmX6_density D G ad r v n x [.ref (ad 0)] (fX6_density K r v n) := by
  intro sz0 q0 hf
  obtain ⟨fin, he⟩ : ∃ fin, fin = fz n q0 := ⟨_, rfl⟩
  rw [← he]
  refine vx_ofW (cc := cX6_density) (maxL := 3) (ret := (some .float)) (by decide) rfl ?_
  intro p e s m args below meth c s₁ B hml htab hv
  obtain ⟨hargs, rfl, hU, hP, hD, hZ⟩ := hv
  have hx := B.exec
  have hb := B.bytes
  have hrt := B.returns
  have hts : ∀ w ∈ wsL_law, w.before args s = true := fun w hw => atoms_spec (ws := .code yX6_density cX6_density 3 (some .float) :: wsL_law) B.pre w (List.mem_cons_of_mem _ hw)
  have hlocks := B.notSynchronized
  have E : CallFix p m c cX6_density 3 s args wsL_law RX6 := ⟨hx, hb, hml, findClass_of_methodNamed B.named, hts⟩
  have hB : sB D G (sA ad r n s.heap.size) s.heap ad r v n x s.heap [] := ⟨hP, sD_self hD, va_S.rf⟩
  have hgo : sGo r n ad r n ad := sGo.rf
  have h0 : n ≤ n := Nat.le_refl n
  have hl := lv_entry ([.ref (ad 0)]) (n := 3) (Nat.le_of_ble_eq_true rfl)
  refine W.eq (g2 := F0 m 0 ((lg_sl ([.ref (ad 0)]) ++ List.replicate (3 - (lg_sl ([.ref (ad 0)])).length) Slot.unset).toArray) []) (by rw [hargs]; exact lg_entry_eq _ _ _) ?_
  generalize (lg_sl ([.ref (ad 0)]) ++ List.replicate (3 - (lg_sl ([.ref (ad 0)])).length) Slot.unset).toArray = ls at hl ⊢
  have hl : lv_has ls 3 [(0, .ref (ad 0))] := hl
  refine W_00 (n := n) ?_
  have hf := (fX6_density.eq_1 ..).symm.trans hf
  refine lv_iconst (v := 0) hx hb dX6_density_0 rfl ?_
  refine lv_istore_n (lv' := [(1, .int 0), (0, .ref (ad 0))]) hx hb dX6_density_1 rfl hl (Nat.le_of_ble_eq_true rfl) rfl (fun ls hl => ?_)
  refine lv_iconst (v := 0) hx hb dX6_density_2 rfl ?_
  refine lv_istore_n (lv' := [(2, .int 0), (1, .int 0), (0, .ref (ad 0))]) hx hb dX6_density_3 rfl hl (Nat.le_of_ble_eq_true rfl) rfl (fun ls hl => ?_)
  exact lX6_density_4 E hlocks hrt hU hst hZ htab _ _ _ _ _ _ _ _ _ _ _ hsh hn hgo hf he hB (lv_sub hl [2, 1, 0] rfl)
abbrev rmX6_feed (c s : Nat) : Room := { frames := 8, cells := c, slots := s, locals := 200 }
set_option maxRecDepth 100000 in
set_option maxHeartbeats 4000000 in
theorem mX6_feed (l : Launch) (hst : l.stackTraces = false) (D : va_G) (G : Nat → ClassId) (ad : Nat → Nat) (r : sR) (v : sV) (n : Nat) (x : Int64 × UInt64) (hsh : sSh r) (hn : 172 ≤ n) (x1 : Int32) : sMT sQTi l yX6_feed (.code yX6_feed cX6_feed 2 (some .int) :: wsL_law) rmX6_feed D G ad r v n x [.ref (ad 0), .int x1] (fX6_feed x1 r v n) := by
  intro sz0 q0 hf
  obtain ⟨fin, he⟩ : ∃ fin, fin = fz n q0 := ⟨_, rfl⟩
  rw [← he]
  refine vx_ofW (cc := cX6_feed) (maxL := 2) (ret := (some .int)) (by decide) rfl ?_
  intro p e s m args below meth c s₁ B hml htab hv
  obtain ⟨hargs, rfl, hU, hP, hD, hZ⟩ := hv
  have hx := B.exec
  have hb := B.bytes
  have hrt := B.returns
  have hts : ∀ w ∈ wsL_law, w.before args s = true := fun w hw => atoms_spec (ws := .code yX6_feed cX6_feed 2 (some .int) :: wsL_law) B.pre w (List.mem_cons_of_mem _ hw)
  have hlocks := B.notSynchronized
  have E : CallFix p m c cX6_feed 2 s args wsL_law RX6 := ⟨hx, hb, hml, findClass_of_methodNamed B.named, hts⟩
  have hB : sB D G (sA ad r n s.heap.size) s.heap ad r v n x s.heap [] := ⟨hP, sD_self hD, va_S.rf⟩
  have hgo : sGo r n ad r n ad := sGo.rf
  have h0 : n ≤ n := Nat.le_refl n
  have hl := lv_entry ([.ref (ad 0), .int x1]) (n := 2) (Nat.le_of_ble_eq_true rfl)
  refine W.eq (g2 := F0 m 0 ((lg_sl ([.ref (ad 0), .int x1]) ++ List.replicate (2 - (lg_sl ([.ref (ad 0), .int x1])).length) Slot.unset).toArray) []) (by rw [hargs]; exact lg_entry_eq _ _ _) ?_
  generalize (lg_sl ([.ref (ad 0), .int x1]) ++ List.replicate (2 - (lg_sl ([.ref (ad 0), .int x1])).length) Slot.unset).toArray = ls at hl ⊢
  have hl : lv_has ls 2 [(0, .ref (ad 0)), (1, .int x1)] := hl
  refine W_00 (n := n) ?_
  have hf := (fX6_feed.eq_1 ..).symm.trans hf
  refine lv_aload_n hx hb dX6_feed_0 rfl (lv_at hl 0 rfl) ?_
  refine s_getR (k := 7) (t := 154) E hU hB.1 sc8 (slt hsh hn 0 rfl) rfl inlX6 (Nat.le_of_ble_eq_true rfl) rfl rfl wkX6_52 (hsh.1 0 7 154 rfl) dX6_feed_1 ?_
  refine sc_R hf (rV_R (As := []) (rest := []) E hU hB.1 sc6 (slt hsh hn 154 rfl) rfl (mX4_isFull l D G ad r _ n x hsh hn) (cwGV 0 okX4_isFull wmX6_307 hts rfl rfl ⟨Nat.le_of_ble_eq_true rfl, Nat.le_of_ble_eq_true rfl⟩) rfl hl.1 (Nat.le_of_ble_eq_true rfl) dX6_feed_4 (aC he (Nat.le_add_right _ _) (Nat.le_add_right _ _)) rfl) (fun y1 hf => ?_)
  refine lv_if_eq (tgt := 21) hx hb dX6_feed_7 rfl (fun hc => ?_) (fun hc => ?_)
  · have hf := ite_t hf hc
    refine lv_aload_n hx hb dX6_feed_21 rfl (lv_at hl 0 rfl) ?_
    refine s_getR (k := 7) (t := 154) E hU hB.1 sc8 (slt hsh hn 0 rfl) rfl inlX6 (Nat.le_of_ble_eq_true rfl) rfl rfl wkX6_52 (hsh.1 0 7 154 rfl) dX6_feed_22 ?_
    refine lv_iload_n hx hb dX6_feed_25 rfl (lv_at hl 1 rfl) ?_
    refine sc_I hB (fun q h => Or.inr h) hf (fun q9 h9 => rV_W (As := [.int x1]) (rest := []) E hU hB sc6 (slt hsh hn 154 rfl) rfl ((mX4_append l D G ad r _ n x hsh hn x1) _ _ h9) (cwGV 1 okX4_append wmX6_313 hts rfl rfl ⟨Nat.le_of_ble_eq_true rfl, Nat.le_of_ble_eq_true rfl⟩) rfl hl.1 (Nat.le_of_ble_eq_true rfl) dX6_feed_26 (aC he (Nat.le_add_right _ _) (Nat.le_add_right _ _)) rfl) (fun y3 v2 hf H locs hB => ?_)
    exact s_iretT E hrt hlocks hB hgo hf he dX6_feed_29
  · have hf := ite_f hf hc
    exact s_thrW E hU hst hZ htab hlocks hB hgo hl.1 sxk3 (List.mem_of_getElem? (i := 16) rfl) dX6_feed_10 dX6_feed_13 dX6_feed_14 dX6_feed_17 dX6_feed_20 (Nat.le_of_ble_eq_true rfl) (Nat.le_of_ble_eq_true rfl) ⟨Nat.le_refl _, Nat.le_refl _⟩ hf he
abbrev rmX6_readMap (c s : Nat) : Room := { frames := 8, cells := c, slots := s, locals := 200 }
set_option maxRecDepth 100000 in
set_option maxHeartbeats 4000000 in
theorem lX6_readMap_89 {K : Nat} {ad0 : Nat → Nat} {r0 : sR} {n0 : Nat} {fin : (Sum Int32 Nat × sR × sV × Nat)} (E : CallFix p m c cX6_readMap 4 s args wsL_law RX6) (hlocks : meth.locks = false) (hrt : meth.sig.returnType = (some .int)) (hU : sU D G s) (hst : l.stackTraces = false) (hZ : sZ (sA ad0 r0 n0 s.heap.size) s) (htab : ∀ x ∈ c.exceptionTable.toList, False) :
    ∀ (k : Nat) (x2 : Int32) (x3 : Int32) (r : sR) (v : sV) (n : Nat) (ad : Nat → Nat) (H : Heap) (locs : List Loc) (ls : Array Slot) (rez : (Sum Int32 Nat × sR × sV × Nat)), sSh r → 172 ≤ n → sGo r0 n0 ad0 r n ad → fx5 (gX6_readMap_89 K) k x2 x3 r v n = some rez → fin = fz n rez → sB D G (sA ad0 r0 n0 s.heap.size) s.heap ad r v n x H locs → lv_has ls 4 [(0, .ref (ad 0)), (2, .int x2), (3, .int x3)] → W p l e (rmX6_readMap (mcT n0 fin) (msT n0 fin)) s m args below meth c H locs (n - n0) (sz n - sz n0) (vx_MQ below (sQTi D G ad0 r0 n0 x s.heap.size fin) (sXC D G ad0 r0 n0 x s.heap.size fin) args s (mcT n0 fin) (msT n0 fin) (sA ad0 r0 n0 s.heap.size)) (F0 m 89 ls []) := by
  have hx := E.1
  have hb := E.2.1
  have hts := E.2.2.2.2
  intro k
  induction k with
  | zero =>
    intro x2 x3 r v n ad H locs ls rez hsh hn hgo hf he hB hl
    exact fx5_z hf
  | succ k ih =>
    intro x2 x3 r v n ad H locs ls rez hsh hn hgo hf he hB hl
    have h0 := hgo.1
    have hf := (gX6_readMap_89.eq_1 ..).symm.trans hf
    refine lv_iload_n hx hb dX6_readMap_89 rfl (lv_at hl 2 rfl) ?_
    refine lv_sipush (v := 140) hx hb dX6_readMap_90 rfl ?_
    refine lv_icmp_ge (tgt := 136) hx hb dX6_readMap_93 rfl (fun hc => ?_) (fun hc => ?_)
    · have hf := ite_t hf hc
      refine lv_aload_n hx hb dX6_readMap_136 rfl (lv_at hl 0 rfl) ?_
      refine s_getR (k := 1) (t := 14) E hU hB.1 sc8 (slt hsh hn 0 rfl) rfl inlX6 (Nat.le_of_ble_eq_true rfl) rfl rfl wkX6_19 (hsh.1 0 1 14 rfl) dX6_readMap_137 ?_
      refine sc_Av hB (fun q h => Or.inr h) h0 ⟨Nat.le_add_right _ _, Nat.le_add_right _ _⟩ hf he (fun q9 h9 hc9 => rV_A (As := []) (rest := []) E hU hB sc4 (slt hsh hn 14 rfl) rfl (mX2_forgetAll l K D G ad r _ n x hsh hn _ _ h9) (cwGV 0 okX2_forgetAll wmX6_87 hts rfl rfl ⟨Nat.le_of_ble_eq_true rfl, Nat.le_of_ble_eq_true rfl⟩) rfl hl.1 (Nat.le_of_ble_eq_true rfl) dX6_readMap_140 hc9 rfl) (fun rr5 v5 n5 rez hf he ad5 hg5 h0 H locs hB => ?_)
      have hl : lv_has ls 4 [(0, .ref (ad5 0)), (2, .int x2), (3, .int x3)] := by rw [(hg5.2 (0) (slt hsh hn 0 rfl)).2]; exact hl
      have hn : 172 ≤ n5 := Nat.le_trans hn hg5.1
      have hgo := hgo.trans hg5
      obtain ⟨hsh, hf⟩ := ck_e hf
      refine lv_iload_n hx hb dX6_readMap_143 rfl (lv_at hl 1 rfl) ?_
      exact s_iretT E hrt hlocks hB hgo hf he dX6_readMap_144
    · have hf := ite_f hf hc
      refine lv_aload_n hx hb dX6_readMap_96 rfl (lv_at hl 0 rfl) ?_
      refine s_getR (k := 7) (t := 154) E hU hB.1 sc8 (slt hsh hn 0 rfl) rfl inlX6 (Nat.le_of_ble_eq_true rfl) rfl rfl wkX6_52 (hsh.1 0 7 154 rfl) dX6_readMap_97 ?_
      refine s_getR (k := 2) (t := 156) E hU hB.1 sc6 (slt hsh hn 154 rfl) rfl inlX4 (Nat.le_of_ble_eq_true rfl) rfl rfl wkX6_323 (hsh.1 154 2 156 rfl) dX6_readMap_100 ?_
      refine lv_iload_n hx hb dX6_readMap_103 rfl (lv_at hl 2 rfl) ?_
      refine s_iald E hU hB.1 (slt hsh hn 156 rfl) rfl dX6_readMap_104 hf (fun y6 hf => ?_)
      refine lv_iconst (v := (-1)) hx hb dX6_readMap_105 rfl ?_
      refine lv_icmp_eq (tgt := 130) hx hb dX6_readMap_106 rfl (fun hc => ?_) (fun hc => ?_)
      · have hf := ite_t hf hc
        obtain ⟨z7, ez9, hf⟩ := nm_x hf
        refine lv_iinc (v := z7) (lv' := [(3, .int z7), (0, .ref (ad 0)), (2, .int x2)]) hx hb dX6_readMap_130 hl (k := 2) rfl (by rw [ez9]; rfl) (Nat.le_of_ble_eq_true rfl) rfl (fun ls hl => ?_)
        refine lv_goto (tgt := 89) hx hb dX6_readMap_133 rfl ?_
        exact ih _ _ _ _ _ _ _ _ _ _ hsh hn hgo hf he hB (lv_sub hl [1, 2, 0] rfl)
      · have hf := ite_f hf hc
        refine lv_aload_n hx hb dX6_readMap_109 rfl (lv_at hl 0 rfl) ?_
        refine s_getR (k := 0) (t := 1) E hU hB.1 sc8 (slt hsh hn 0 rfl) rfl inlX6 (Nat.le_of_ble_eq_true rfl) rfl rfl wkX6_12 (hsh.1 0 0 1 rfl) dX6_readMap_110 ?_
        refine s_getR (k := 0) (t := 2) E hU hB.1 sc7 (slt hsh hn 1 rfl) rfl inlX5 (Nat.le_of_ble_eq_true rfl) rfl rfl wkX6_83 (hsh.1 1 0 2 rfl) dX6_readMap_113 ?_
        refine lv_iload_n hx hb dX6_readMap_116 rfl (lv_at hl 2 rfl) ?_
        refine lv_aload_n hx hb dX6_readMap_117 rfl (lv_at hl 0 rfl) ?_
        refine s_getR (k := 7) (t := 154) E hU hB.1 sc8 (slt hsh hn 0 rfl) rfl inlX6 (Nat.le_of_ble_eq_true rfl) rfl rfl wkX6_52 (hsh.1 0 7 154 rfl) dX6_readMap_118 ?_
        refine s_getR (k := 2) (t := 156) E hU hB.1 sc6 (slt hsh hn 154 rfl) rfl inlX4 (Nat.le_of_ble_eq_true rfl) rfl rfl wkX6_323 (hsh.1 154 2 156 rfl) dX6_readMap_121 ?_
        refine lv_iload_n hx hb dX6_readMap_124 rfl (lv_at hl 2 rfl) ?_
        refine s_iald E hU hB.1 (slt hsh hn 156 rfl) rfl dX6_readMap_125 hf (fun y8 hf => ?_)
        refine s_iast E hU hB (slt hsh hn 2 rfl) rfl dX6_readMap_126 hf (fun v9 hf H locs hB => ?_)
        obtain ⟨z10, ez9, hf⟩ := nm_x hf
        refine lv_iinc (v := z10) (lv' := [(2, .int z10), (0, .ref (ad 0)), (3, .int x3)]) hx hb dX6_readMap_127 hl (k := 1) rfl (by rw [ez9]; rfl) (Nat.le_of_ble_eq_true rfl) rfl (fun ls hl => ?_)
        obtain ⟨z11, ez9, hf⟩ := nm_x hf
        refine lv_iinc (v := z11) (lv' := [(3, .int z11), (2, .int z10), (0, .ref (ad 0))]) hx hb dX6_readMap_130 hl (k := 2) rfl (by rw [ez9]; rfl) (Nat.le_of_ble_eq_true rfl) rfl (fun ls hl => ?_)
        refine lv_goto (tgt := 89) hx hb dX6_readMap_133 rfl ?_
        exact ih _ _ _ _ _ _ _ _ _ _ hsh hn hgo hf he hB (lv_sub hl [2, 1, 0] rfl)
set_option maxRecDepth 100000 in
set_option maxHeartbeats 4000000 in
theorem lX6_readMap_27 {K : Nat} {ad0 : Nat → Nat} {r0 : sR} {n0 : Nat} {fin : (Sum Int32 Nat × sR × sV × Nat)} (E : CallFix p m c cX6_readMap 4 s args wsL_law RX6) (hlocks : meth.locks = false) (hrt : meth.sig.returnType = (some .int)) (hU : sU D G s) (hst : l.stackTraces = false) (hZ : sZ (sA ad0 r0 n0 s.heap.size) s) (htab : ∀ x ∈ c.exceptionTable.toList, False) :
    ∀ (k : Nat) (x2 : Int32) (r : sR) (v : sV) (n : Nat) (ad : Nat → Nat) (H : Heap) (locs : List Loc) (ls : Array Slot) (rez : (Sum Int32 Nat × sR × sV × Nat)), sSh r → 172 ≤ n → sGo r0 n0 ad0 r n ad → fx4 (gX6_readMap_27 K) k x2 r v n = some rez → fin = fz n rez → sB D G (sA ad0 r0 n0 s.heap.size) s.heap ad r v n x H locs → lv_has ls 4 [(0, .ref (ad 0)), (2, .int x2)] → W p l e (rmX6_readMap (mcT n0 fin) (msT n0 fin)) s m args below meth c H locs (n - n0) (sz n - sz n0) (vx_MQ below (sQTi D G ad0 r0 n0 x s.heap.size fin) (sXC D G ad0 r0 n0 x s.heap.size fin) args s (mcT n0 fin) (msT n0 fin) (sA ad0 r0 n0 s.heap.size)) (F0 m 27 ls []) := by
  have hx := E.1
  have hb := E.2.1
  have hts := E.2.2.2.2
  intro k
  induction k with
  | zero =>
    intro x2 r v n ad H locs ls rez hsh hn hgo hf he hB hl
    exact fx4_z hf
  | succ k ih =>
    intro x2 r v n ad H locs ls rez hsh hn hgo hf he hB hl
    have h0 := hgo.1
    have hf := (gX6_readMap_27.eq_1 ..).symm.trans hf
    refine lv_iload_n hx hb dX6_readMap_27 rfl (lv_at hl 1 rfl) ?_
    refine lv_sipush (v := 140) hx hb dX6_readMap_28 rfl ?_
    refine lv_icmp_ge (tgt := 74) hx hb dX6_readMap_31 rfl (fun hc => ?_) (fun hc => ?_)
    · have hf := ite_t hf hc
      refine lv_aload_n hx hb dX6_readMap_74 rfl (lv_at hl 0 rfl) ?_
      refine s_getR (k := 4) (t := 35) E hU hB.1 sc8 (slt hsh hn 0 rfl) rfl inlX6 (Nat.le_of_ble_eq_true rfl) rfl rfl wkX6_38 (hsh.1 0 4 35 rfl) dX6_readMap_75 ?_
      refine lv_aload_n hx hb dX6_readMap_78 rfl (lv_at hl 0 rfl) ?_
      refine s_getR (k := 0) (t := 1) E hU hB.1 sc8 (slt hsh hn 0 rfl) rfl inlX6 (Nat.le_of_ble_eq_true rfl) rfl rfl wkX6_12 (hsh.1 0 0 1 rfl) dX6_readMap_79 ?_
      refine sc_Av hB (fun q h => Or.inr h) h0 ⟨Nat.le_add_right _ _, Nat.le_add_right _ _⟩ hf he (fun q9 h9 hc9 => rV_A (As := [.ref (ad 1)]) (rest := []) E hU hB sc5 (slt hsh hn 35 rfl) rfl (mX3_record l K D G ad r _ n x hsh hn 1 (Or.inl (by decide)) _ _ h9) (cwGV 1 okX3_record wmX6_79 hts rfl rfl ⟨Nat.le_of_ble_eq_true rfl, Nat.le_of_ble_eq_true rfl⟩) rfl hl.1 (Nat.le_of_ble_eq_true rfl) dX6_readMap_82 hc9 rfl) (fun rr4 v4 n4 rez hf he ad4 hg4 h0 H locs hB => ?_)
      have hl : lv_has ls 4 [(0, .ref (ad4 0)), (2, .int x2)] := by rw [(hg4.2 (0) (slt hsh hn 0 rfl)).2]; exact hl
      have hn : 172 ≤ n4 := Nat.le_trans hn hg4.1
      have hgo := hgo.trans hg4
      obtain ⟨hsh, hf⟩ := ck_e hf
      refine lv_iconst (v := 0) hx hb dX6_readMap_85 rfl ?_
      refine lv_istore_n (lv' := [(2, .int 0), (0, .ref (ad4 0))]) hx hb dX6_readMap_86 rfl hl (Nat.le_of_ble_eq_true rfl) rfl (fun ls hl => ?_)
      refine lv_iconst (v := 0) hx hb dX6_readMap_87 rfl ?_
      refine lv_istore_n (lv' := [(3, .int 0), (2, .int 0), (0, .ref (ad4 0))]) hx hb dX6_readMap_88 rfl hl (Nat.le_of_ble_eq_true rfl) rfl (fun ls hl => ?_)
      exact lX6_readMap_89 E hlocks hrt hU hst hZ htab _ _ _ _ _ _ _ _ _ _ _ hsh hn hgo hf he hB (lv_sub hl [2, 1, 0] rfl)
    · have hf := ite_f hf hc
      refine lv_aload_n hx hb dX6_readMap_34 rfl (lv_at hl 0 rfl) ?_
      refine s_getR (k := 7) (t := 154) E hU hB.1 sc8 (slt hsh hn 0 rfl) rfl inlX6 (Nat.le_of_ble_eq_true rfl) rfl rfl wkX6_52 (hsh.1 0 7 154 rfl) dX6_readMap_35 ?_
      refine s_getR (k := 2) (t := 156) E hU hB.1 sc6 (slt hsh hn 154 rfl) rfl inlX4 (Nat.le_of_ble_eq_true rfl) rfl rfl wkX6_323 (hsh.1 154 2 156 rfl) dX6_readMap_38 ?_
      refine lv_iload_n hx hb dX6_readMap_41 rfl (lv_at hl 1 rfl) ?_
      refine s_iald E hU hB.1 (slt hsh hn 156 rfl) rfl dX6_readMap_42 hf (fun y12 hf => ?_)
      refine lv_if_ne (tgt := 68) hx hb dX6_readMap_43 rfl (fun hc => ?_) (fun hc => ?_)
      · have hf := ite_f hf hc
        obtain ⟨z13, ez9, hf⟩ := nm_x hf
        refine lv_iinc (v := z13) (lv' := [(2, .int z13), (0, .ref (ad 0))]) hx hb dX6_readMap_68 hl (k := 1) rfl (by rw [ez9]; rfl) (Nat.le_of_ble_eq_true rfl) rfl (fun ls hl => ?_)
        refine lv_goto (tgt := 27) hx hb dX6_readMap_71 rfl ?_
        exact ih _ _ _ _ _ _ _ _ _ hsh hn hgo hf he hB (lv_sub hl [1, 0] rfl)
      · have hf := ite_t hf hc
        refine lv_aload_n hx hb dX6_readMap_46 rfl (lv_at hl 0 rfl) ?_
        refine s_getR (k := 2) (t := 20) E hU hB.1 sc8 (slt hsh hn 0 rfl) rfl inlX6 (Nat.le_of_ble_eq_true rfl) rfl rfl wkX6_28 (hsh.1 0 2 20 rfl) dX6_readMap_47 ?_
        refine lv_iload_n hx hb dX6_readMap_50 rfl (lv_at hl 1 rfl) ?_
        refine sc_R hf (rV_R (As := [.int x2]) (rest := []) E hU hB.1 sc2 (slt hsh hn 20 rfl) rfl (mX0_isInUse l K D G ad r _ n x hsh hn 20 1 (Or.inl ⟨rfl, rfl⟩) x2) (cwGV 1 okX0_isInUse wmX6_68 hts rfl rfl ⟨Nat.le_of_ble_eq_true rfl, Nat.le_of_ble_eq_true rfl⟩) rfl hl.1 (Nat.le_of_ble_eq_true rfl) dX6_readMap_51 (aC he (Nat.le_add_right _ _) (Nat.le_add_right _ _)) rfl) (fun y14 hf => ?_)
        refine lv_if_eq (tgt := 68) hx hb dX6_readMap_54 rfl (fun hc => ?_) (fun hc => ?_)
        · have hf := ite_t hf hc
          obtain ⟨z15, ez9, hf⟩ := nm_x hf
          refine lv_iinc (v := z15) (lv' := [(2, .int z15), (0, .ref (ad 0))]) hx hb dX6_readMap_68 hl (k := 1) rfl (by rw [ez9]; rfl) (Nat.le_of_ble_eq_true rfl) rfl (fun ls hl => ?_)
          refine lv_goto (tgt := 27) hx hb dX6_readMap_71 rfl ?_
          exact ih _ _ _ _ _ _ _ _ _ hsh hn hgo hf he hB (lv_sub hl [1, 0] rfl)
        · have hf := ite_f hf hc
          exact s_thrW E hU hst hZ htab hlocks hB hgo hl.1 sxk3 (List.mem_of_getElem? (i := 17) rfl) dX6_readMap_57 dX6_readMap_60 dX6_readMap_61 dX6_readMap_64 dX6_readMap_67 (Nat.le_of_ble_eq_true rfl) (Nat.le_of_ble_eq_true rfl) ⟨Nat.le_refl _, Nat.le_refl _⟩ hf he
set_option maxRecDepth 100000 in
set_option maxHeartbeats 4000000 in
theorem mX6_readMap (l : Launch) (K : Nat) (hst : l.stackTraces = false) (D : va_G) (G : Nat → ClassId) (ad : Nat → Nat) (r : sR) (v : sV) (n : Nat) (x : Int64 × UInt64) (hsh : sSh r) (hn : 172 ≤ n) : sMT sQTi l yX6_readMap (.code yX6_readMap cX6_readMap 4 (some .int) :: wsL_law) rmX6_readMap D G ad r v n x [.ref (ad 0)] (fX6_readMap K r v n) := by
  intro sz0 q0 hf
  obtain ⟨fin, he⟩ : ∃ fin, fin = fz n q0 := ⟨_, rfl⟩
  rw [← he]
  refine vx_ofW (cc := cX6_readMap) (maxL := 4) (ret := (some .int)) (by decide) rfl ?_
  intro p e s m args below meth c s₁ B hml htab hv
  obtain ⟨hargs, rfl, hU, hP, hD, hZ⟩ := hv
  have hx := B.exec
  have hb := B.bytes
  have hrt := B.returns
  have hts : ∀ w ∈ wsL_law, w.before args s = true := fun w hw => atoms_spec (ws := .code yX6_readMap cX6_readMap 4 (some .int) :: wsL_law) B.pre w (List.mem_cons_of_mem _ hw)
  have hlocks := B.notSynchronized
  have E : CallFix p m c cX6_readMap 4 s args wsL_law RX6 := ⟨hx, hb, hml, findClass_of_methodNamed B.named, hts⟩
  have hB : sB D G (sA ad r n s.heap.size) s.heap ad r v n x s.heap [] := ⟨hP, sD_self hD, va_S.rf⟩
  have hgo : sGo r n ad r n ad := sGo.rf
  have h0 : n ≤ n := Nat.le_refl n
  have hl := lv_entry ([.ref (ad 0)]) (n := 4) (Nat.le_of_ble_eq_true rfl)
  refine W.eq (g2 := F0 m 0 ((lg_sl ([.ref (ad 0)]) ++ List.replicate (4 - (lg_sl ([.ref (ad 0)])).length) Slot.unset).toArray) []) (by rw [hargs]; exact lg_entry_eq _ _ _) ?_
  generalize (lg_sl ([.ref (ad 0)]) ++ List.replicate (4 - (lg_sl ([.ref (ad 0)])).length) Slot.unset).toArray = ls at hl ⊢
  have hl : lv_has ls 4 [(0, .ref (ad 0))] := hl
  refine W_00 (n := n) ?_
  have hf := (fX6_readMap.eq_1 ..).symm.trans hf
  refine lv_aload_n hx hb dX6_readMap_0 rfl (lv_at hl 0 rfl) ?_
  refine s_getR (k := 7) (t := 154) E hU hB.1 sc8 (slt hsh hn 0 rfl) rfl inlX6 (Nat.le_of_ble_eq_true rfl) rfl rfl wkX6_52 (hsh.1 0 7 154 rfl) dX6_readMap_1 ?_
  refine sc_I hB (fun q h => Or.inr h) hf (fun q9 h9 => rV_W (As := []) (rest := []) E hU hB sc6 (slt hsh hn 154 rfl) rfl ((mX4_parse l K D G ad r _ n x hsh hn) _ _ h9) (cwGV 0 okX4_parse wmX6_317 hts rfl rfl ⟨Nat.le_of_ble_eq_true rfl, Nat.le_of_ble_eq_true rfl⟩) rfl hl.1 (Nat.le_of_ble_eq_true rfl) dX6_readMap_4 (aC he (Nat.le_add_right _ _) (Nat.le_add_right _ _)) rfl) (fun y2 v1 hf H locs hB => ?_)
  refine lv_istore_n (lv' := [(1, .int y2), (0, .ref (ad 0))]) hx hb dX6_readMap_7 rfl hl (Nat.le_of_ble_eq_true rfl) rfl (fun ls hl => ?_)
  refine lv_aload_n hx hb dX6_readMap_8 rfl (lv_at hl 1 rfl) ?_
  refine s_getR (k := 7) (t := 154) E hU hB.1 sc8 (slt hsh hn 0 rfl) rfl inlX6 (Nat.le_of_ble_eq_true rfl) rfl rfl wkX6_52 (hsh.1 0 7 154 rfl) dX6_readMap_9 ?_
  refine sc_V hB (fun q h => Or.inr h) hf (fun q9 h9 => rV_W (As := []) (rest := []) E hU hB sc6 (slt hsh hn 154 rfl) rfl ((mX4_empty l D G ad r _ n x hsh hn) _ _ h9) (cwGV 0 okX4_empty wmX6_320 hts rfl rfl ⟨Nat.le_of_ble_eq_true rfl, Nat.le_of_ble_eq_true rfl⟩) rfl hl.1 (Nat.le_of_ble_eq_true rfl) dX6_readMap_12 (aC he (Nat.le_add_right _ _) (Nat.le_add_right _ _)) rfl) (fun v3 hf H locs hB => ?_)
  refine lv_iload_n hx hb dX6_readMap_15 rfl (lv_at hl 0 rfl) ?_
  refine lv_iconst (v := (-1)) hx hb dX6_readMap_16 rfl ?_
  refine lv_icmp_eq (tgt := 25) hx hb dX6_readMap_17 rfl (fun hc => ?_) (fun hc => ?_)
  · have hf := ite_t hf hc
    refine lv_iconst (v := 0) hx hb dX6_readMap_25 rfl ?_
    refine lv_istore_n (lv' := [(2, .int 0), (1, .int y2), (0, .ref (ad 0))]) hx hb dX6_readMap_26 rfl hl (Nat.le_of_ble_eq_true rfl) rfl (fun ls hl => ?_)
    exact lX6_readMap_27 E hlocks hrt hU hst hZ htab _ _ _ _ _ _ _ _ _ _ hsh hn hgo hf he hB (lv_sub hl [2, 0] rfl)
  · have hf := ite_f hf hc
    refine lv_bipush (v := (-100)) hx hb dX6_readMap_20 rfl ?_
    refine lv_iload_n hx hb dX6_readMap_22 rfl (lv_at hl 0 rfl) ?_
    refine lv_isub hx hb dX6_readMap_23 ?_
    exact s_iretT E hrt hlocks hB hgo hf he dX6_readMap_24
abbrev rmX6_map (c s : Nat) : Room := { frames := 8, cells := c, slots := s, locals := 200 }
set_option maxRecDepth 100000 in
set_option maxHeartbeats 4000000 in
theorem mX6_map (l : Launch) (hst : l.stackTraces = false) (D : va_G) (G : Nat → ClassId) (ad : Nat → Nat) (r : sR) (v : sV) (n : Nat) (x : Int64 × UInt64) (hsh : sSh r) (hn : 172 ≤ n) (x1 : Int32) : sMT sQTi l yX6_map (.code yX6_map cX6_map 4 (some .char) :: wsL_law) rmX6_map D G ad r v n x [.ref (ad 0), .int x1] (fX6_map x1 r v n) := by
  intro sz0 q0 hf
  obtain ⟨fin, he⟩ : ∃ fin, fin = fz n q0 := ⟨_, rfl⟩
  rw [← he]
  refine vx_ofW (cc := cX6_map) (maxL := 4) (ret := (some .char)) (by decide) rfl ?_
  intro p e s m args below meth c s₁ B hml htab hv
  obtain ⟨hargs, rfl, hU, hP, hD, hZ⟩ := hv
  have hx := B.exec
  have hb := B.bytes
  have hrt := B.returns
  have hts : ∀ w ∈ wsL_law, w.before args s = true := fun w hw => atoms_spec (ws := .code yX6_map cX6_map 4 (some .char) :: wsL_law) B.pre w (List.mem_cons_of_mem _ hw)
  have hlocks := B.notSynchronized
  have E : CallFix p m c cX6_map 4 s args wsL_law RX6 := ⟨hx, hb, hml, findClass_of_methodNamed B.named, hts⟩
  have hB : sB D G (sA ad r n s.heap.size) s.heap ad r v n x s.heap [] := ⟨hP, sD_self hD, va_S.rf⟩
  have hgo : sGo r n ad r n ad := sGo.rf
  have h0 : n ≤ n := Nat.le_refl n
  have hl := lv_entry ([.ref (ad 0), .int x1]) (n := 4) (Nat.le_of_ble_eq_true rfl)
  refine W.eq (g2 := F0 m 0 ((lg_sl ([.ref (ad 0), .int x1]) ++ List.replicate (4 - (lg_sl ([.ref (ad 0), .int x1])).length) Slot.unset).toArray) []) (by rw [hargs]; exact lg_entry_eq _ _ _) ?_
  generalize (lg_sl ([.ref (ad 0), .int x1]) ++ List.replicate (4 - (lg_sl ([.ref (ad 0), .int x1])).length) Slot.unset).toArray = ls at hl ⊢
  have hl : lv_has ls 4 [(0, .ref (ad 0)), (1, .int x1)] := hl
  refine W_00 (n := n) ?_
  have hf := (fX6_map.eq_1 ..).symm.trans hf
  refine lv_iload_n hx hb dX6_map_0 rfl (lv_at hl 1 rfl) ?_
  refine lv_if_lt (tgt := 11) hx hb dX6_map_1 rfl (fun hc => ?_) (fun hc => ?_)
  · have hf := ite_t hf hc
    exact s_thrW E hU hst hZ htab hlocks hB hgo hl.1 sxk1 (List.mem_of_getElem? (i := 18) rfl) dX6_map_11 dX6_map_14 dX6_map_15 dX6_map_18 dX6_map_21 (Nat.le_of_ble_eq_true rfl) (Nat.le_of_ble_eq_true rfl) ⟨Nat.le_refl _, Nat.le_refl _⟩ hf he
  · have hf := ite_f hf hc
    refine lv_iload_n hx hb dX6_map_4 rfl (lv_at hl 1 rfl) ?_
    refine lv_sipush (v := 149) hx hb dX6_map_5 rfl ?_
    refine lv_icmp_lt (tgt := 22) hx hb dX6_map_8 rfl (fun hc => ?_) (fun hc => ?_)
    · have hf := ite_t hf hc
      refine lv_iload_n hx hb dX6_map_22 rfl (lv_at hl 1 rfl) ?_
      refine lv_bipush (v := 15) hx hb dX6_map_23 rfl ?_
      refine lv_irem hx hb dX6_map_25 (by decide) ?_
      refine s_nm hf (fun z1 hf => ?_)
      refine lv_istore_n (lv' := [(2, .int z1), (0, .ref (ad 0)), (1, .int x1)]) hx hb dX6_map_26 rfl hl (Nat.le_of_ble_eq_true rfl) rfl (fun ls hl => ?_)
      refine lv_iload_n hx hb dX6_map_27 rfl (lv_at hl 0 rfl) ?_
      refine lv_bipush (v := 14) hx hb dX6_map_28 rfl ?_
      refine lv_icmp_ne (tgt := 36) hx hb dX6_map_30 rfl (fun hc => ?_) (fun hc => ?_)
      · have hf := ite_f hf hc
        refine lv_aload_n hx hb dX6_map_36 rfl (lv_at hl 1 rfl) ?_
        refine s_getR (k := 0) (t := 1) E hU hB.1 sc8 (slt hsh hn 0 rfl) rfl inlX6 (Nat.le_of_ble_eq_true rfl) rfl rfl wkX6_12 (hsh.1 0 0 1 rfl) dX6_map_37 ?_
        refine s_getR (k := 0) (t := 2) E hU hB.1 sc7 (slt hsh hn 1 rfl) rfl inlX5 (Nat.le_of_ble_eq_true rfl) rfl rfl wkX6_83 (hsh.1 1 0 2 rfl) dX6_map_40 ?_
        refine lv_iload_n hx hb dX6_map_43 rfl (lv_at hl 0 rfl) ?_
        refine lv_iload_n hx hb dX6_map_44 rfl (lv_at hl 2 rfl) ?_
        refine lv_bipush (v := 15) hx hb dX6_map_45 rfl ?_
        refine lv_idiv hx hb dX6_map_47 (by decide) ?_
        refine sc_R hf (rS_S (As := [.int z1, .int (x1 / 15)]) (rest := [.ref (ad 2)]) E (mX6_cellAt l z1 (x1 / 15)) (cwGS 2 okX6_cellAt wmX6_64 hts rfl rfl ⟨Nat.le_of_ble_eq_true rfl, Nat.le_of_ble_eq_true rfl⟩) rfl hl.1 (Nat.le_of_ble_eq_true rfl) dX6_map_48 (aC he (Nat.le_add_right _ _) (Nat.le_add_right _ _)) rfl) (fun y2 hf => ?_)
        refine s_iald E hU hB.1 (slt hsh hn 2 rfl) rfl dX6_map_51 hf (fun y3 hf => ?_)
        refine lv_istore_n (lv' := [(3, .int y3), (2, .int z1), (0, .ref (ad 0)), (1, .int x1)]) hx hb dX6_map_52 rfl hl (Nat.le_of_ble_eq_true rfl) rfl (fun ls hl => ?_)
        refine lv_iload_n hx hb dX6_map_53 rfl (lv_at hl 0 rfl) ?_
        refine lv_if_ne (tgt := 62) hx hb dX6_map_54 rfl (fun hc => ?_) (fun hc => ?_)
        · have hf := ite_f hf hc
          refine lv_bipush (v := 48) hx hb dX6_map_62 rfl ?_
          refine lv_iload_n hx hb dX6_map_64 rfl (lv_at hl 0 rfl) ?_
          refine lv_iadd hx hb dX6_map_65 ?_
          refine lv_i2c hx hb dX6_map_66 rfl ?_
          obtain ⟨hc9, hf⟩ := ckc_e hf
          exact s_zretT E hrt hlocks hB hgo (nc_of hc9) hf he dX6_map_67
        · have hf := ite_t hf hc
          refine lv_bipush (v := 35) hx hb dX6_map_57 rfl ?_
          refine lv_goto (tgt := 67) hx hb dX6_map_59 rfl ?_
          exact s_zretT E hrt hlocks hB hgo rfl hf he dX6_map_67
      · have hf := ite_t hf hc
        refine lv_bipush (v := 47) hx hb dX6_map_33 rfl ?_
        exact s_zretT E hrt hlocks hB hgo rfl hf he dX6_map_35
    · have hf := ite_f hf hc
      exact s_thrW E hU hst hZ htab hlocks hB hgo hl.1 sxk1 (List.mem_of_getElem? (i := 18) rfl) dX6_map_11 dX6_map_14 dX6_map_15 dX6_map_18 dX6_map_21 (Nat.le_of_ble_eq_true rfl) (Nat.le_of_ble_eq_true rfl) ⟨Nat.le_refl _, Nat.le_refl _⟩ hf he
abbrev rmX6_undo (c s : Nat) : Room := { frames := 8, cells := c, slots := s, locals := 200 }
set_option maxRecDepth 100000 in
set_option maxHeartbeats 4000000 in
theorem mX6_undo (l : Launch) (K : Nat) (hst : l.stackTraces = false) (D : va_G) (G : Nat → ClassId) (ad : Nat → Nat) (r : sR) (v : sV) (n : Nat) (x : Int64 × UInt64) (hsh : sSh r) (hn : 172 ≤ n) : sMT sQTi l yX6_undo (.code yX6_undo cX6_undo 1 (some .int) :: wsL_law) rmX6_undo D G ad r v n x [.ref (ad 0)] (fX6_undo K r v n) := by
  intro sz0 q0 hf
  obtain ⟨fin, he⟩ : ∃ fin, fin = fz n q0 := ⟨_, rfl⟩
  rw [← he]
  refine vx_ofW (cc := cX6_undo) (maxL := 1) (ret := (some .int)) (by decide) rfl ?_
  intro p e s m args below meth c s₁ B hml htab hv
  obtain ⟨hargs, rfl, hU, hP, hD, hZ⟩ := hv
  have hx := B.exec
  have hb := B.bytes
  have hrt := B.returns
  have hts : ∀ w ∈ wsL_law, w.before args s = true := fun w hw => atoms_spec (ws := .code yX6_undo cX6_undo 1 (some .int) :: wsL_law) B.pre w (List.mem_cons_of_mem _ hw)
  have hlocks := B.notSynchronized
  have E : CallFix p m c cX6_undo 1 s args wsL_law RX6 := ⟨hx, hb, hml, findClass_of_methodNamed B.named, hts⟩
  have hB : sB D G (sA ad r n s.heap.size) s.heap ad r v n x s.heap [] := ⟨hP, sD_self hD, va_S.rf⟩
  have hgo : sGo r n ad r n ad := sGo.rf
  have h0 : n ≤ n := Nat.le_refl n
  have hl := lv_entry ([.ref (ad 0)]) (n := 1) (Nat.le_of_ble_eq_true rfl)
  refine W.eq (g2 := F0 m 0 ((lg_sl ([.ref (ad 0)]) ++ List.replicate (1 - (lg_sl ([.ref (ad 0)])).length) Slot.unset).toArray) []) (by rw [hargs]; exact lg_entry_eq _ _ _) ?_
  generalize (lg_sl ([.ref (ad 0)]) ++ List.replicate (1 - (lg_sl ([.ref (ad 0)])).length) Slot.unset).toArray = ls at hl ⊢
  have hl : lv_has ls 1 [(0, .ref (ad 0))] := hl
  refine W_00 (n := n) ?_
  have hf := (fX6_undo.eq_1 ..).symm.trans hf
  refine lv_aload_n hx hb dX6_undo_0 rfl (lv_at hl 0 rfl) ?_
  refine s_getR (k := 4) (t := 35) E hU hB.1 sc8 (slt hsh hn 0 rfl) rfl inlX6 (Nat.le_of_ble_eq_true rfl) rfl rfl wkX6_38 (hsh.1 0 4 35 rfl) dX6_undo_1 ?_
  refine s_getI (k := 2) E hU hB.1 sc5 (slt hsh hn 35 rfl) rfl inlX3 (Nat.le_of_ble_eq_true rfl) rfl rfl wkX6_328 dX6_undo_4 ?_
  refine lv_if_ne (tgt := 21) hx hb dX6_undo_7 rfl (fun hc => ?_) (fun hc => ?_)
  · have hf := ite_f hf hc
    refine lv_aload_n hx hb dX6_undo_21 rfl (lv_at hl 0 rfl) ?_
    refine s_getR (k := 4) (t := 35) E hU hB.1 sc8 (slt hsh hn 0 rfl) rfl inlX6 (Nat.le_of_ble_eq_true rfl) rfl rfl wkX6_38 (hsh.1 0 4 35 rfl) dX6_undo_22 ?_
    refine lv_aload_n hx hb dX6_undo_25 rfl (lv_at hl 0 rfl) ?_
    refine s_getR (k := 0) (t := 1) E hU hB.1 sc8 (slt hsh hn 0 rfl) rfl inlX6 (Nat.le_of_ble_eq_true rfl) rfl rfl wkX6_12 (hsh.1 0 0 1 rfl) dX6_undo_26 ?_
    refine sc_Av hB (fun q h => Or.inr h) h0 ⟨Nat.le_add_right _ _, Nat.le_add_right _ _⟩ hf he (fun q9 h9 hc9 => rV_A (As := [.ref (ad 1)]) (rest := []) E hU hB sc5 (slt hsh hn 35 rfl) rfl (mX3_takeBack l D G ad r _ n x hsh hn 1 (Or.inl (by decide)) _ _ h9) (cwGV 1 okX3_takeBack wmX6_333 hts rfl rfl ⟨Nat.le_of_ble_eq_true rfl, Nat.le_of_ble_eq_true rfl⟩) rfl hl.1 (Nat.le_of_ble_eq_true rfl) dX6_undo_29 hc9 rfl) (fun rr1 v1 n1 rez hf he ad1 hg1 h0 H locs hB => ?_)
    have hl : lv_has ls 1 [(0, .ref (ad1 0))] := by rw [(hg1.2 (0) (slt hsh hn 0 rfl)).2]; exact hl
    have hn : 172 ≤ n1 := Nat.le_trans hn hg1.1
    have hgo := hgo.trans hg1
    obtain ⟨hsh, hf⟩ := ck_e hf
    refine lv_aload_n hx hb dX6_undo_32 rfl (lv_at hl 0 rfl) ?_
    refine s_getR (k := 1) (t := 14) E hU hB.1 sc8 (slt hsh hn 0 rfl) rfl inlX6 (Nat.le_of_ble_eq_true rfl) rfl rfl wkX6_19 (hsh.1 0 1 14 rfl) dX6_undo_33 ?_
    refine sc_Av hB (fun q h => Or.inr h) h0 ⟨Nat.le_add_right _ _, Nat.le_add_right _ _⟩ hf he (fun q9 h9 hc9 => rV_A (As := []) (rest := []) E hU hB sc4 (slt hsh hn 14 rfl) rfl (mX2_forgetAll l K D G ad1 rr1 _ n1 x hsh hn _ _ h9) (cwGV 0 okX2_forgetAll wmX6_87 hts rfl rfl ⟨Nat.le_of_ble_eq_true rfl, Nat.le_of_ble_eq_true rfl⟩) rfl hl.1 (Nat.le_of_ble_eq_true rfl) dX6_undo_36 hc9 rfl) (fun rr2 v2 n2 rez hf he ad2 hg2 h0 H locs hB => ?_)
    have hl : lv_has ls 1 [(0, .ref (ad2 0))] := by rw [(hg2.2 (0) (slt hsh hn 0 rfl)).2]; exact hl
    have hn : 172 ≤ n2 := Nat.le_trans hn hg2.1
    have hgo := hgo.trans hg2
    obtain ⟨hsh, hf⟩ := ck_e hf
    refine lv_aload_n hx hb dX6_undo_39 rfl (lv_at hl 0 rfl) ?_
    refine s_getR (k := 4) (t := 35) E hU hB.1 sc8 (slt hsh hn 0 rfl) rfl inlX6 (Nat.le_of_ble_eq_true rfl) rfl rfl wkX6_38 (hsh.1 0 4 35 rfl) dX6_undo_40 ?_
    refine s_getI (k := 2) E hU hB.1 sc5 (slt hsh hn 35 rfl) rfl inlX3 (Nat.le_of_ble_eq_true rfl) rfl rfl wkX6_328 dX6_undo_43 ?_
    exact s_iretT E hrt hlocks hB hgo hf he dX6_undo_46
  · have hf := ite_t hf hc
    exact s_thrW E hU hst hZ htab hlocks hB hgo hl.1 sxk3 (List.mem_of_getElem? (i := 19) rfl) dX6_undo_10 dX6_undo_13 dX6_undo_14 dX6_undo_17 dX6_undo_20 (Nat.le_of_ble_eq_true rfl) (Nat.le_of_ble_eq_true rfl) ⟨Nat.le_refl _, Nat.le_refl _⟩ hf he
abbrev rmX6_restore (c s : Nat) : Room := { frames := 8, cells := c, slots := s, locals := 200 }
set_option maxRecDepth 100000 in
set_option maxHeartbeats 4000000 in
theorem mX6_restore (l : Launch) (K : Nat) (hst : l.stackTraces = false) (D : va_G) (G : Nat → ClassId) (ad : Nat → Nat) (r : sR) (v : sV) (n : Nat) (x : Int64 × UInt64) (hsh : sSh r) (hn : 172 ≤ n) : sMT sQTi l yX6_restore (.code yX6_restore cX6_restore 1 (some .int) :: wsL_law) rmX6_restore D G ad r v n x [.ref (ad 0)] (fX6_restore K r v n) := by
  intro sz0 q0 hf
  obtain ⟨fin, he⟩ : ∃ fin, fin = fz n q0 := ⟨_, rfl⟩
  rw [← he]
  refine vx_ofW (cc := cX6_restore) (maxL := 1) (ret := (some .int)) (by decide) rfl ?_
  intro p e s m args below meth c s₁ B hml htab hv
  obtain ⟨hargs, rfl, hU, hP, hD, hZ⟩ := hv
  have hx := B.exec
  have hb := B.bytes
  have hrt := B.returns
  have hts : ∀ w ∈ wsL_law, w.before args s = true := fun w hw => atoms_spec (ws := .code yX6_restore cX6_restore 1 (some .int) :: wsL_law) B.pre w (List.mem_cons_of_mem _ hw)
  have hlocks := B.notSynchronized
  have E : CallFix p m c cX6_restore 1 s args wsL_law RX6 := ⟨hx, hb, hml, findClass_of_methodNamed B.named, hts⟩
  have hB : sB D G (sA ad r n s.heap.size) s.heap ad r v n x s.heap [] := ⟨hP, sD_self hD, va_S.rf⟩
  have hgo : sGo r n ad r n ad := sGo.rf
  have h0 : n ≤ n := Nat.le_refl n
  have hl := lv_entry ([.ref (ad 0)]) (n := 1) (Nat.le_of_ble_eq_true rfl)
  refine W.eq (g2 := F0 m 0 ((lg_sl ([.ref (ad 0)]) ++ List.replicate (1 - (lg_sl ([.ref (ad 0)])).length) Slot.unset).toArray) []) (by rw [hargs]; exact lg_entry_eq _ _ _) ?_
  generalize (lg_sl ([.ref (ad 0)]) ++ List.replicate (1 - (lg_sl ([.ref (ad 0)])).length) Slot.unset).toArray = ls at hl ⊢
  have hl : lv_has ls 1 [(0, .ref (ad 0))] := hl
  refine W_00 (n := n) ?_
  have hf := (fX6_restore.eq_1 ..).symm.trans hf
  refine lv_aload_n hx hb dX6_restore_0 rfl (lv_at hl 0 rfl) ?_
  refine s_getI (k := 6) E hU hB.1 sc8 (slt hsh hn 0 rfl) rfl inlX6 (Nat.le_of_ble_eq_true rfl) rfl rfl wkX6_45 dX6_restore_1 ?_
  refine lv_if_ne (tgt := 18) hx hb dX6_restore_4 rfl (fun hc => ?_) (fun hc => ?_)
  · have hf := ite_f hf hc
    refine lv_aload_n hx hb dX6_restore_18 rfl (lv_at hl 0 rfl) ?_
    refine s_getR (k := 0) (t := 1) E hU hB.1 sc8 (slt hsh hn 0 rfl) rfl inlX6 (Nat.le_of_ble_eq_true rfl) rfl rfl wkX6_12 (hsh.1 0 0 1 rfl) dX6_restore_19 ?_
    refine lv_aload_n hx hb dX6_restore_22 rfl (lv_at hl 0 rfl) ?_
    refine s_getR (k := 5) (t := 141) E hU hB.1 sc8 (slt hsh hn 0 rfl) rfl inlX6 (Nat.le_of_ble_eq_true rfl) rfl rfl wkX6_42 (hsh.1 0 5 141 rfl) dX6_restore_23 ?_
    refine sc_V hB (fun q h => Or.inr h) hf (fun q9 h9 => rV_W (As := [.ref (ad 141)]) (rest := []) E hU hB sc7 (slt hsh hn 1 rfl) rfl ((mX5_copyFrom l D G ad r _ n x hsh hn 1 141 (Or.inl (by decide)) (Or.inl (by decide))) _ _ h9) (cwGV 1 okX5_copyFrom wmX6_271 hts rfl rfl ⟨Nat.le_of_ble_eq_true rfl, Nat.le_of_ble_eq_true rfl⟩) rfl hl.1 (Nat.le_of_ble_eq_true rfl) dX6_restore_26 (aC he (Nat.le_add_right _ _) (Nat.le_add_right _ _)) rfl) (fun v1 hf H locs hB => ?_)
    refine lv_aload_n hx hb dX6_restore_29 rfl (lv_at hl 0 rfl) ?_
    refine s_getR (k := 4) (t := 35) E hU hB.1 sc8 (slt hsh hn 0 rfl) rfl inlX6 (Nat.le_of_ble_eq_true rfl) rfl rfl wkX6_38 (hsh.1 0 4 35 rfl) dX6_restore_30 ?_
    refine sc_V hB (fun q h => Or.inr h) hf (fun q9 h9 => rV_W (As := []) (rest := []) E hU hB sc5 (slt hsh hn 35 rfl) rfl ((mX3_clear l D G ad r _ n x hsh hn) _ _ h9) (cwGV 0 okX3_clear wmX6_338 hts rfl rfl ⟨Nat.le_of_ble_eq_true rfl, Nat.le_of_ble_eq_true rfl⟩) rfl hl.1 (Nat.le_of_ble_eq_true rfl) dX6_restore_33 (aC he (Nat.le_add_right _ _) (Nat.le_add_right _ _)) rfl) (fun v2 hf H locs hB => ?_)
    refine lv_aload_n hx hb dX6_restore_36 rfl (lv_at hl 0 rfl) ?_
    refine s_getR (k := 1) (t := 14) E hU hB.1 sc8 (slt hsh hn 0 rfl) rfl inlX6 (Nat.le_of_ble_eq_true rfl) rfl rfl wkX6_19 (hsh.1 0 1 14 rfl) dX6_restore_37 ?_
    refine sc_Av hB (fun q h => Or.inr h) h0 ⟨Nat.le_add_right _ _, Nat.le_add_right _ _⟩ hf he (fun q9 h9 hc9 => rV_A (As := []) (rest := []) E hU hB sc4 (slt hsh hn 14 rfl) rfl (mX2_forgetAll l K D G ad r _ n x hsh hn _ _ h9) (cwGV 0 okX2_forgetAll wmX6_87 hts rfl rfl ⟨Nat.le_of_ble_eq_true rfl, Nat.le_of_ble_eq_true rfl⟩) rfl hl.1 (Nat.le_of_ble_eq_true rfl) dX6_restore_40 hc9 rfl) (fun rr3 v3 n3 rez hf he ad3 hg3 h0 H locs hB => ?_)
    have hl : lv_has ls 1 [(0, .ref (ad3 0))] := by rw [(hg3.2 (0) (slt hsh hn 0 rfl)).2]; exact hl
    have hn : 172 ≤ n3 := Nat.le_trans hn hg3.1
    have hgo := hgo.trans hg3
    obtain ⟨hsh, hf⟩ := ck_e hf
    refine lv_aload_n hx hb dX6_restore_43 rfl (lv_at hl 0 rfl) ?_
    refine s_getR (k := 2) (t := 20) E hU hB.1 sc8 (slt hsh hn 0 rfl) rfl inlX6 (Nat.le_of_ble_eq_true rfl) rfl rfl wkX6_28 (hsh.1 0 2 20 rfl) dX6_restore_44 ?_
    refine sc_R hf (rV_R (As := []) (rest := []) E hU hB.1 sc2 (slt hsh hn 20 rfl) rfl (mX0_all l K D G ad3 rr3 _ n3 x hsh hn 20 1 (Or.inl ⟨rfl, rfl⟩)) (cwGV 0 okX0_all wmX6_177 hts rfl rfl ⟨Nat.le_of_ble_eq_true rfl, Nat.le_of_ble_eq_true rfl⟩) rfl hl.1 (Nat.le_of_ble_eq_true rfl) dX6_restore_47 (aC he (Nat.le_add_right _ _) (Nat.le_add_right _ _)) rfl) (fun y4 hf => ?_)
    refine sc_R hf (rS_S (As := [.int y4]) (rest := []) E (mJ6_bitCount_0f7a4 l y4) (cwGS 1 okJ6_bitCount_0f7a4 wmX6_180 hts rfl rfl ⟨Nat.le_of_ble_eq_true rfl, Nat.le_of_ble_eq_true rfl⟩) rfl hl.1 (Nat.le_of_ble_eq_true rfl) dX6_restore_50 (aC he (Nat.le_add_right _ _) (Nat.le_add_right _ _)) rfl) (fun y5 hf => ?_)
    exact s_iretT E hrt hlocks hB hgo hf he dX6_restore_53
  · have hf := ite_t hf hc
    exact s_thrW E hU hst hZ htab hlocks hB hgo hl.1 sxk3 (List.mem_of_getElem? (i := 20) rfl) dX6_restore_7 dX6_restore_10 dX6_restore_11 dX6_restore_14 dX6_restore_17 (Nat.le_of_ble_eq_true rfl) (Nat.le_of_ble_eq_true rfl) ⟨Nat.le_refl _, Nat.le_refl _⟩ hf he
end
