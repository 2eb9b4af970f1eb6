section
variable {p : Program} {l : Launch} {e : Env} {s : State} {m : MethodId} {args : Array Value} {below : List Frame} {meth : Method} {c : Code}
variable {D : va_G} {G : Nat → ClassId} {ad : Nat → Nat} {r : sR} {n : Nat} {x : Int64 × UInt64}
abbrev rmX6_requireCell (c s : Nat) : Room := { frames := 8, cells := c, slots := s, locals := 200 }
set_option maxRecDepth 100000 in
set_option maxHeartbeats 4000000 in
theorem mX6_requireCell (l : Launch) (hst : l.stackTraces = false) (D : va_G) (G : Nat → ClassId) (ad : Nat → Nat) (r : sR) (v : sV) (n : Nat) (x : Int64 × UInt64) (hsh : sSh r) (hn : 172 ≤ n) (x0 : Int32) (x1 : Int32) : sMT sQTv l yX6_requireCell (.code yX6_requireCell cX6_requireCell 2 none :: wsL_law) rmX6_requireCell D G ad r v n x [.int x0, .int x1] (fX6_requireCell x0 x1 r v n) := by
  intro sz0 q0 hf
  obtain ⟨fin, he⟩ : ∃ fin, fin = fz n q0 := ⟨_, rfl⟩
  rw [← he]
  refine vx_ofW (cc := cX6_requireCell) (maxL := 2) (ret := none) (by decide) rfl ?_
  intro p e s m args below meth c s₁ B hml htab hv
  obtain ⟨hargs, rfl, hU, hP, hD, hZ⟩ := hv
  have hx := B.exec
  have hb := B.bytes
  have hrt := B.returns
  have hts : ∀ w ∈ wsL_law, w.before args s = true := fun w hw => atoms_spec (ws := .code yX6_requireCell cX6_requireCell 2 none :: wsL_law) B.pre w (List.mem_cons_of_mem _ hw)
  have hlocks := B.notSynchronized
  have E : CallFix p m c cX6_requireCell 2 s args wsL_law RX6 := ⟨hx, hb, hml, findClass_of_methodNamed B.named, hts⟩
  have hB : sB D G (sA ad r n s.heap.size) s.heap ad r v n x s.heap [] := ⟨hP, sD_self hD, va_S.rf⟩
  have hgo : sGo r n ad r n ad := sGo.rf
  have h0 : n ≤ n := Nat.le_refl n
  have hl := lv_entry ([.int x0, .int x1]) (n := 2) (Nat.le_of_ble_eq_true rfl)
  refine W.eq (g2 := F0 m 0 ((lg_sl ([.int x0, .int x1]) ++ List.replicate (2 - (lg_sl ([.int x0, .int x1])).length) Slot.unset).toArray) []) (by rw [hargs]; exact lg_entry_eq _ _ _) ?_
  generalize (lg_sl ([.int x0, .int x1]) ++ List.replicate (2 - (lg_sl ([.int x0, .int x1])).length) Slot.unset).toArray = ls at hl ⊢
  have hl : lv_has ls 2 [(0, .int x0), (1, .int x1)] := hl
  refine W_00 (n := n) ?_
  have hf := (fX6_requireCell.eq_1 ..).symm.trans hf
  refine lv_iload_n hx hb dX6_requireCell_0 rfl (lv_at hl 0 rfl) ?_
  refine lv_iload_n hx hb dX6_requireCell_1 rfl (lv_at hl 1 rfl) ?_
  refine sc_R hf (rS_S (As := [.int x0, .int x1]) (rest := []) E (mX6_cellAt l x0 x1) (cwGS 2 okX6_cellAt wmX6_64 hts rfl rfl ⟨Nat.le_of_ble_eq_true rfl, Nat.le_of_ble_eq_true rfl⟩) rfl hl.1 (Nat.le_of_ble_eq_true rfl) dX6_requireCell_2 (aC he (Nat.le_add_right _ _) (Nat.le_add_right _ _)) rfl) (fun y1 hf => ?_)
  refine lv_iconst (v := (-1)) hx hb dX6_requireCell_5 rfl ?_
  refine lv_icmp_ne (tgt := 20) hx hb dX6_requireCell_6 rfl (fun hc => ?_) (fun hc => ?_)
  · have hf := ite_f hf hc
    exact s_vretT E hrt hlocks hB hgo hf he dX6_requireCell_20
  · have hf := ite_t hf hc
    exact s_thrW E hU hst hZ htab hlocks hB hgo hl.1 sxk1 (List.mem_of_getElem? (i := 21) rfl) dX6_requireCell_9 dX6_requireCell_12 dX6_requireCell_13 dX6_requireCell_16 dX6_requireCell_19 (Nat.le_of_ble_eq_true rfl) (Nat.le_of_ble_eq_true rfl) ⟨Nat.le_refl _, Nat.le_refl _⟩ hf he
abbrev rmX6_requireArgument (c s : Nat) : Room := { frames := 8, cells := c, slots := s, locals := 200 }
set_option maxRecDepth 100000 in
set_option maxHeartbeats 4000000 in
theorem mX6_requireArgument (l : Launch) (hst : l.stackTraces = false) (D : va_G) (G : Nat → ClassId) (ad : Nat → Nat) (r : sR) (v : sV) (n : Nat) (x : Int64 × UInt64) (hsh : sSh r) (hn : 172 ≤ n) (x0 : Int32) : sMT sQTv l yX6_requireArgument (.code yX6_requireArgument cX6_requireArgument 1 none :: wsL_law) rmX6_requireArgument D G ad r v n x [.int x0] (fX6_requireArgument x0 r v n) := by
  intro sz0 q0 hf
  obtain ⟨fin, he⟩ : ∃ fin, fin = fz n q0 := ⟨_, rfl⟩
  rw [← he]
  refine vx_ofW (cc := cX6_requireArgument) (maxL := 1) (ret := none) (by decide) rfl ?_
  intro p e s m args below meth c s₁ B hml htab hv
  obtain ⟨hargs, rfl, hU, hP, hD, hZ⟩ := hv
  have hx := B.exec
  have hb := B.bytes
  have hrt := B.returns
  have hts : ∀ w ∈ wsL_law, w.before args s = true := fun w hw => atoms_spec (ws := .code yX6_requireArgument cX6_requireArgument 1 none :: wsL_law) B.pre w (List.mem_cons_of_mem _ hw)
  have hlocks := B.notSynchronized
  have E : CallFix p m c cX6_requireArgument 1 s args wsL_law RX6 := ⟨hx, hb, hml, findClass_of_methodNamed B.named, hts⟩
  have hB : sB D G (sA ad r n s.heap.size) s.heap ad r v n x s.heap [] := ⟨hP, sD_self hD, va_S.rf⟩
  have hgo : sGo r n ad r n ad := sGo.rf
  have h0 : n ≤ n := Nat.le_refl n
  have hl := lv_entry ([.int x0]) (n := 1) (Nat.le_of_ble_eq_true rfl)
  refine W.eq (g2 := F0 m 0 ((lg_sl ([.int x0]) ++ List.replicate (1 - (lg_sl ([.int x0])).length) Slot.unset).toArray) []) (by rw [hargs]; exact lg_entry_eq _ _ _) ?_
  generalize (lg_sl ([.int x0]) ++ List.replicate (1 - (lg_sl ([.int x0])).length) Slot.unset).toArray = ls at hl ⊢
  have hl : lv_has ls 1 [(0, .int x0)] := hl
  refine W_00 (n := n) ?_
  have hf := (fX6_requireArgument.eq_1 ..).symm.trans hf
  refine lv_iload_n hx hb dX6_requireArgument_0 rfl (lv_at hl 0 rfl) ?_
  refine lv_if_ne (tgt := 15) hx hb dX6_requireArgument_1 rfl (fun hc => ?_) (fun hc => ?_)
  · have hf := ite_f hf hc
    exact s_vretT E hrt hlocks hB hgo hf he dX6_requireArgument_15
  · have hf := ite_t hf hc
    exact s_thrW E hU hst hZ htab hlocks hB hgo hl.1 sxk2 (List.mem_of_getElem? (i := 25) rfl) dX6_requireArgument_4 dX6_requireArgument_7 dX6_requireArgument_8 dX6_requireArgument_11 dX6_requireArgument_14 (Nat.le_of_ble_eq_true rfl) (Nat.le_of_ble_eq_true rfl) ⟨Nat.le_refl _, Nat.le_refl _⟩ hf he
abbrev rmX6_setCell (c s : Nat) : Room := { frames := 9, cells := c, slots := s, locals := 221 }
set_option maxRecDepth 100000 in
set_option maxHeartbeats 4000000 in
theorem wX6_setCell_56 {K : Nat} {x3 : Int32} {x4 : Int32} {ad0 ad : Nat → Nat} {n0 n : Nat} {r0 r : sR} {v : sV} {H : Heap} {locs : List Loc} {ls : Array Slot} {fin rez : (Sum Int32 Nat × sR × sV × Nat)} (E : CallFix p m c cX6_setCell 6 s args wsL_law RX6) (hlocks : meth.locks = false) (hrt : meth.sig.returnType = (some .int)) (hU : sU D G s) (hst : l.stackTraces = false) (hZ : sZ (sA ad0 r0 n0 s.heap.size) s) (htab : ∀ x ∈ c.exceptionTable.toList, False) (hsh : sSh r) (hn : 172 ≤ n) (hgo : sGo r0 n0 ad0 r n ad) (hf : bX6_setCell_56 K x3 x4 r v n = some rez) (he : fin = fz n rez) (hB : sB D G (sA ad0 r0 n0 s.heap.size) s.heap ad r v n x H locs) (hl : lv_has ls 6 [(0, .ref (ad 0)), (3, .int x3), (4, .int x4)]) :
    W p l e (rmX6_setCell (mcT n0 fin) (msT n0 fin)) s m args below meth c H locs (n - n0) (sz n - sz n0) (vx_MQ below (sQTi D G ad0 r0 n0 x s.heap.size fin) (sXC D G ad0 r0 n0 x s.heap.size fin) args s (mcT n0 fin) (msT n0 fin) (sA ad0 r0 n0 s.heap.size)) (F0 m 56 ls []) := by
  have hx := E.1
  have hb := E.2.1
  have hts := E.2.2.2.2
  have h0 := hgo.1
  have hf := (bX6_setCell_56.eq_1 ..).symm.trans hf
  refine lv_aload_n hx hb dX6_setCell_56 rfl (lv_at hl 0 rfl) ?_
  refine s_getR (k := 4) (t := 35) E hU hB.1 sc8 (slt hsh hn 0 rfl) rfl inlX6 (Nat.le_of_ble_eq_true rfl) rfl rfl wkX6_38 (hsh.1 0 4 35 rfl) dX6_setCell_57 ?_
  refine lv_aload_n hx hb dX6_setCell_60 rfl (lv_at hl 0 rfl) ?_
  refine s_getR (k := 0) (t := 1) E hU hB.1 sc8 (slt hsh hn 0 rfl) rfl inlX6 (Nat.le_of_ble_eq_true rfl) rfl rfl wkX6_12 (hsh.1 0 0 1 rfl) dX6_setCell_61 ?_
  refine sc_Av hB (fun q h => Or.inr h) h0 ⟨Nat.le_add_right _ _, Nat.le_add_right _ _⟩ hf he (fun q9 h9 hc9 => rV_A (As := [.ref (ad 1)]) (rest := []) E hU hB sc5 (slt hsh hn 35 rfl) rfl (mX3_record l K D G ad r _ n x hsh hn 1 (Or.inl (by decide)) _ _ h9) (cwGV 1 okX3_record wmX6_79 hts rfl rfl ⟨Nat.le_of_ble_eq_true rfl, Nat.le_of_ble_eq_true rfl⟩) rfl hl.1 (Nat.le_of_ble_eq_true rfl) dX6_setCell_64 hc9 rfl) (fun rr4 v4 n4 rez hf he ad4 hg4 h0 H locs hB => ?_)
  have hl : lv_has ls 6 [(0, .ref (ad4 0)), (3, .int x3), (4, .int x4)] := by rw [(hg4.2 (0) (slt hsh hn 0 rfl)).2]; exact hl
  have hn : 172 ≤ n4 := Nat.le_trans hn hg4.1
  have hgo := hgo.trans hg4
  obtain ⟨hsh, hf⟩ := ck_e hf
  refine lv_aload_n hx hb dX6_setCell_67 rfl (lv_at hl 0 rfl) ?_
  refine s_getR (k := 0) (t := 1) E hU hB.1 sc8 (slt hsh hn 0 rfl) rfl inlX6 (Nat.le_of_ble_eq_true rfl) rfl rfl wkX6_12 (hsh.1 0 0 1 rfl) dX6_setCell_68 ?_
  refine s_getR (k := 0) (t := 2) E hU hB.1 sc7 (slt hsh hn 1 rfl) rfl inlX5 (Nat.le_of_ble_eq_true rfl) rfl rfl wkX6_83 (hsh.1 1 0 2 rfl) dX6_setCell_71 ?_
  refine lv_iload hx hb dX6_setCell_74 (lv_at hl 2 rfl) ?_
  refine s_iald E hU hB.1 (slt hsh hn 2 rfl) rfl dX6_setCell_76 hf (fun y5 hf => ?_)
  refine lv_istore (lv' := [(5, .int y5), (0, .ref (ad4 0)), (3, .int x3), (4, .int x4)]) hx hb dX6_setCell_77 hl (Nat.le_of_ble_eq_true rfl) rfl (fun ls hl => ?_)
  refine lv_aload_n hx hb dX6_setCell_79 rfl (lv_at hl 1 rfl) ?_
  refine s_getR (k := 0) (t := 1) E hU hB.1 sc8 (slt hsh hn 0 rfl) rfl inlX6 (Nat.le_of_ble_eq_true rfl) rfl rfl wkX6_12 (hsh.1 0 0 1 rfl) dX6_setCell_80 ?_
  refine s_getR (k := 0) (t := 2) E hU hB.1 sc7 (slt hsh hn 1 rfl) rfl inlX5 (Nat.le_of_ble_eq_true rfl) rfl rfl wkX6_83 (hsh.1 1 0 2 rfl) dX6_setCell_83 ?_
  refine lv_iload hx hb dX6_setCell_86 (lv_at hl 3 rfl) ?_
  refine lv_iload_n hx hb dX6_setCell_88 rfl (lv_at hl 2 rfl) ?_
  refine s_iast E hU hB (slt hsh hn 2 rfl) rfl dX6_setCell_89 hf (fun v6 hf H locs hB => ?_)
  refine lv_aload_n hx hb dX6_setCell_90 rfl (lv_at hl 1 rfl) ?_
  refine s_getR (k := 1) (t := 14) E hU hB.1 sc8 (slt hsh hn 0 rfl) rfl inlX6 (Nat.le_of_ble_eq_true rfl) rfl rfl wkX6_19 (hsh.1 0 1 14 rfl) dX6_setCell_91 ?_
  refine sc_Av hB (fun q h => Or.inr h) h0 ⟨Nat.le_add_right _ _, Nat.le_add_right _ _⟩ hf he (fun q9 h9 hc9 => rV_A (As := []) (rest := []) E hU hB sc4 (slt hsh hn 14 rfl) rfl (mX2_forgetAll l K D G ad4 rr4 _ n4 x hsh hn _ _ h9) (cwGV 0 okX2_forgetAll wmX6_87 hts rfl rfl ⟨Nat.le_of_ble_eq_true rfl, Nat.le_of_ble_eq_true rfl⟩) rfl hl.1 (Nat.le_of_ble_eq_true rfl) dX6_setCell_94 hc9 rfl) (fun rr7 v7 n7 rez hf he ad7 hg7 h0 H locs hB => ?_)
  have hl : lv_has ls 6 [(5, .int y5), (0, .ref (ad7 0)), (3, .int x3), (4, .int x4)] := by rw [(hg7.2 (0) (slt hsh hn 0 rfl)).2]; exact hl
  have hn : 172 ≤ n7 := Nat.le_trans hn hg7.1
  have hgo := hgo.trans hg7
  obtain ⟨hsh, hf⟩ := ck_e hf
  refine lv_iload hx hb dX6_setCell_97 (lv_at hl 0 rfl) ?_
  exact s_iretT E hrt hlocks hB hgo hf he dX6_setCell_99
set_option maxRecDepth 100000 in
set_option maxHeartbeats 4000000 in
theorem wX6_setCell_20 {K : Nat} {x1 : Int32} {x2 : Int32} {x3 : Int32} {t0 : Int32} {ad0 ad : Nat → Nat} {n0 n : Nat} {r0 r : sR} {v : sV} {H : Heap} {locs : List Loc} {ls : Array Slot} {fin rez : (Sum Int32 Nat × sR × sV × Nat)} (E : CallFix p m c cX6_setCell 6 s args wsL_law RX6) (hlocks : meth.locks = false) (hrt : meth.sig.returnType = (some .int)) (hU : sU D G s) (hst : l.stackTraces = false) (hZ : sZ (sA ad0 r0 n0 s.heap.size) s) (htab : ∀ x ∈ c.exceptionTable.toList, False) (hsh : sSh r) (hn : 172 ≤ n) (hgo : sGo r0 n0 ad0 r n ad) (hf : bX6_setCell_20 K x1 x2 x3 t0 r v n = some rez) (he : fin = fz n rez) (hB : sB D G (sA ad0 r0 n0 s.heap.size) s.heap ad r v n x H locs) (hl : lv_has ls 6 [(0, .ref (ad 0)), (1, .int x1), (2, .int x2), (3, .int x3)]) :
    W p l e (rmX6_setCell (mcT n0 fin) (msT n0 fin)) s m args below meth c H locs (n - n0) (sz n - sz n0) (vx_MQ below (sQTi D G ad0 r0 n0 x s.heap.size fin) (sXC D G ad0 r0 n0 x s.heap.size fin) args s (mcT n0 fin) (msT n0 fin) (sA ad0 r0 n0 s.heap.size)) (F0 m 20 ls [.int t0]) := by
  have hx := E.1
  have hb := E.2.1
  have hts := E.2.2.2.2
  have h0 := hgo.1
  have hf := (bX6_setCell_20.eq_1 ..).symm.trans hf
  refine sc_Tv htab hlocks hB hgo ⟨Nat.le_refl _, Nat.le_refl _⟩ hf he (fun q9 h9 hc9 => rS_T (As := [.int t0]) (rest := []) E hU hZ (fun q h => Or.inr h) hB (mX6_requireArgument l hst D G ad r _ n x hsh hn t0 _ _ h9) (cwGS 1 okX6_requireArgument wmX6_60 hts rfl rfl ⟨Nat.le_of_ble_eq_true rfl, Nat.le_of_ble_eq_true rfl⟩) rfl hl.1 (Nat.le_of_ble_eq_true rfl) dX6_setCell_20 hc9 rfl) (fun rr2 v2 n2 rez hf he ad2 hg2 h0 H locs hB => ?_)
  have hl : lv_has ls 6 [(0, .ref (ad2 0)), (1, .int x1), (2, .int x2), (3, .int x3)] := by rw [(hg2.2 (0) (slt hsh hn 0 rfl)).2]; exact hl
  have hn : 172 ≤ n2 := Nat.le_trans hn hg2.1
  have hgo := hgo.trans hg2
  obtain ⟨hsh, hf⟩ := ck_e hf
  refine lv_iload_n hx hb dX6_setCell_23 rfl (lv_at hl 1 rfl) ?_
  refine lv_iload_n hx hb dX6_setCell_24 rfl (lv_at hl 2 rfl) ?_
  refine sc_R hf (rS_S (As := [.int x1, .int x2]) (rest := []) E (mX6_cellAt l x1 x2) (cwGS 2 okX6_cellAt wmX6_64 hts rfl rfl ⟨Nat.le_of_ble_eq_true rfl, Nat.le_of_ble_eq_true rfl⟩) rfl hl.1 (Nat.le_of_ble_eq_true rfl) dX6_setCell_25 (aC he (Nat.le_add_right _ _) (Nat.le_add_right _ _)) rfl) (fun y3 hf => ?_)
  refine lv_istore (lv' := [(4, .int y3), (0, .ref (ad2 0)), (1, .int x1), (2, .int x2), (3, .int x3)]) hx hb dX6_setCell_28 hl (Nat.le_of_ble_eq_true rfl) rfl (fun ls hl => ?_)
  refine lv_iload_n hx hb dX6_setCell_30 rfl (lv_at hl 4 rfl) ?_
  refine lv_if_ne (tgt := 56) hx hb dX6_setCell_31 rfl (fun hc => ?_) (fun hc => ?_)
  · have hf := ite_f hf hc
    exact wX6_setCell_56 E hlocks hrt hU hst hZ htab hsh hn hgo hf he hB (lv_sub hl [1, 4, 0] rfl)
  · have hf := ite_t hf hc
    refine lv_aload_n hx hb dX6_setCell_34 rfl (lv_at hl 1 rfl) ?_
    refine s_getR (k := 2) (t := 20) E hU hB.1 sc8 (slt hsh hn 0 rfl) rfl inlX6 (Nat.le_of_ble_eq_true rfl) rfl rfl wkX6_28 (hsh.1 0 2 20 rfl) dX6_setCell_35 ?_
    refine lv_iload hx hb dX6_setCell_38 (lv_at hl 0 rfl) ?_
    refine sc_R hf (rV_R (As := [.int y3]) (rest := []) E hU hB.1 sc2 (slt hsh hn 20 rfl) rfl (mX0_isInUse l K D G ad2 rr2 _ n2 x hsh hn 20 1 (Or.inl ⟨rfl, rfl⟩) y3) (cwGV 1 okX0_isInUse wmX6_68 hts rfl rfl ⟨Nat.le_of_ble_eq_true rfl, Nat.le_of_ble_eq_true rfl⟩) rfl hl.1 (Nat.le_of_ble_eq_true rfl) dX6_setCell_40 (aC he (Nat.le_add_right _ _) (Nat.le_add_right _ _)) rfl) (fun y8 hf => ?_)
    refine lv_if_eq (tgt := 56) hx hb dX6_setCell_43 rfl (fun hc => ?_) (fun hc => ?_)
    · have hf := ite_t hf hc
      exact wX6_setCell_56 E hlocks hrt hU hst hZ htab hsh hn hgo hf he hB (lv_sub hl [1, 4, 0] rfl)
    · have hf := ite_f hf hc
      exact s_thr E hU hst hZ htab hlocks hB hgo hl.1 sxk3 (List.mem_of_getElem? (i := 0) rfl) dX6_setCell_46 dX6_setCell_49 dX6_setCell_50 dX6_setCell_52 dX6_setCell_55 (Nat.le_of_ble_eq_true rfl) (Nat.le_of_ble_eq_true rfl) ⟨Nat.le_refl _, Nat.le_refl _⟩ hf he
set_option maxRecDepth 100000 in
set_option maxHeartbeats 4000000 in
theorem mX6_setCell (l : Launch) (K : Nat) (hst : l.stackTraces = false) (D : va_G) (G : Nat → ClassId) (ad : Nat → Nat) (r : sR) (v : sV) (n : Nat) (x : Int64 × UInt64) (hsh : sSh r) (hn : 172 ≤ n) (x1 : Int32) (x2 : Int32) (x3 : Int32) : sMT sQTi l yX6_setCell (.code yX6_setCell cX6_setCell 6 (some .int) :: wsL_law) rmX6_setCell D G ad r v n x [.ref (ad 0), .int x1, .int x2, .int x3] (fX6_setCell K x1 x2 x3 r v n) := by
  intro sz0 q0 hf
  obtain ⟨fin, he⟩ : ∃ fin, fin = fz n q0 := ⟨_, rfl⟩
  rw [← he]
  refine vx_ofW (cc := cX6_setCell) (maxL := 6) (ret := (some .int)) (by decide) rfl ?_
  intro p e s m args below meth c s₁ B hml htab hv
  obtain ⟨hargs, rfl, hU, hP, hD, hZ⟩ := hv
  have hx := B.exec
  have hb := B.bytes
  have hrt := B.returns
  have hts : ∀ w ∈ wsL_law, w.before args s = true := fun w hw => atoms_spec (ws := .code yX6_setCell cX6_setCell 6 (some .int) :: wsL_law) B.pre w (List.mem_cons_of_mem _ hw)
  have hlocks := B.notSynchronized
  have E : CallFix p m c cX6_setCell 6 s args wsL_law RX6 := ⟨hx, hb, hml, findClass_of_methodNamed B.named, hts⟩
  have hB : sB D G (sA ad r n s.heap.size) s.heap ad r v n x s.heap [] := ⟨hP, sD_self hD, va_S.rf⟩
  have hgo : sGo r n ad r n ad := sGo.rf
  have h0 : n ≤ n := Nat.le_refl n
  have hl := lv_entry ([.ref (ad 0), .int x1, .int x2, .int x3]) (n := 6) (Nat.le_of_ble_eq_true rfl)
  refine W.eq (g2 := F0 m 0 ((lg_sl ([.ref (ad 0), .int x1, .int x2, .int x3]) ++ List.replicate (6 - (lg_sl ([.ref (ad 0), .int x1, .int x2, .int x3])).length) Slot.unset).toArray) []) (by rw [hargs]; exact lg_entry_eq _ _ _) ?_
  generalize (lg_sl ([.ref (ad 0), .int x1, .int x2, .int x3]) ++ List.replicate (6 - (lg_sl ([.ref (ad 0), .int x1, .int x2, .int x3])).length) Slot.unset).toArray = ls at hl ⊢
  have hl : lv_has ls 6 [(0, .ref (ad 0)), (1, .int x1), (2, .int x2), (3, .int x3)] := hl
  refine W_00 (n := n) ?_
  have hf := (fX6_setCell.eq_1 ..).symm.trans hf
  refine lv_iload_n hx hb dX6_setCell_0 rfl (lv_at hl 1 rfl) ?_
  refine lv_iload_n hx hb dX6_setCell_1 rfl (lv_at hl 2 rfl) ?_
  refine sc_Tv htab hlocks hB hgo ⟨Nat.le_refl _, Nat.le_refl _⟩ hf he (fun q9 h9 hc9 => rS_T (As := [.int x1, .int x2]) (rest := []) E hU hZ (fun q h => Or.inr h) hB (mX6_requireCell l hst D G ad r _ n x hsh hn x1 x2 _ _ h9) (cwGS 2 okX6_requireCell wmX6_56 hts rfl rfl ⟨Nat.le_of_ble_eq_true rfl, Nat.le_of_ble_eq_true rfl⟩) rfl hl.1 (Nat.le_of_ble_eq_true rfl) dX6_setCell_2 hc9 rfl) (fun rr1 v1 n1 rez hf he ad1 hg1 h0 H locs hB => ?_)
  have hl : lv_has ls 6 [(0, .ref (ad1 0)), (1, .int x1), (2, .int x2), (3, .int x3)] := by rw [(hg1.2 (0) (slt hsh hn 0 rfl)).2]; exact hl
  have hn : 172 ≤ n1 := Nat.le_trans hn hg1.1
  have hgo := hgo.trans hg1
  obtain ⟨hsh, hf⟩ := ck_e hf
  refine lv_iload_n hx hb dX6_setCell_5 rfl (lv_at hl 3 rfl) ?_
  refine lv_if_lt (tgt := 19) hx hb dX6_setCell_6 rfl (fun hc => ?_) (fun hc => ?_)
  · have hf := ite_t hf hc
    refine lv_iconst (v := 0) hx hb dX6_setCell_19 rfl ?_
    exact wX6_setCell_20 E hlocks hrt hU hst hZ htab hsh hn hgo hf he hB (lv_sub hl [0, 1, 2, 3] rfl)
  · have hf := ite_f hf hc
    refine lv_iload_n hx hb dX6_setCell_9 rfl (lv_at hl 3 rfl) ?_
    refine lv_bipush (v := 9) hx hb dX6_setCell_10 rfl ?_
    refine lv_icmp_gt (tgt := 19) hx hb dX6_setCell_12 rfl (fun hc => ?_) (fun hc => ?_)
    · have hf := ite_t hf hc
      refine lv_iconst (v := 0) hx hb dX6_setCell_19 rfl ?_
      exact wX6_setCell_20 E hlocks hrt hU hst hZ htab hsh hn hgo hf he hB (lv_sub hl [0, 1, 2, 3] rfl)
    · have hf := ite_f hf hc
      refine lv_iconst (v := 1) hx hb dX6_setCell_15 rfl ?_
      refine lv_goto (tgt := 20) hx hb dX6_setCell_16 rfl ?_
      exact wX6_setCell_20 E hlocks hrt hU hst hZ htab hsh hn hgo hf he hB (lv_sub hl [0, 1, 2, 3] rfl)
abbrev rmX6_cell (c s : Nat) : Room := { frames := 9, cells := c, slots := s, locals := 221 }
set_option maxRecDepth 100000 in
set_option maxHeartbeats 4000000 in
theorem mX6_cell (l : Launch) (K : Nat) (hst : l.stackTraces = false) (D : va_G) (G : Nat → ClassId) (ad : Nat → Nat) (r : sR) (v : sV) (n : Nat) (x : Int64 × UInt64) (hsh : sSh r) (hn : 172 ≤ n) (x1 : Int32) (x2 : Int32) (x3 : Int32) : sMT sQTi l yX6_cell (.code yX6_cell cX6_cell 5 (some .int) :: wsL_law) rmX6_cell D G ad r v n x [.ref (ad 0), .int x1, .int x2, .int x3] (fX6_cell K x1 x2 x3 r v n) := by
  intro sz0 q0 hf
  obtain ⟨fin, he⟩ : ∃ fin, fin = fz n q0 := ⟨_, rfl⟩
  rw [← he]
  refine vx_ofW (cc := cX6_cell) (maxL := 5) (ret := (some .int)) (by decide) rfl ?_
  intro p e s m args below meth c s₁ B hml htab hv
  obtain ⟨hargs, rfl, hU, hP, hD, hZ⟩ := hv
  have hx := B.exec
  have hb := B.bytes
  have hrt := B.returns
  have hts : ∀ w ∈ wsL_law, w.before args s = true := fun w hw => atoms_spec (ws := .code yX6_cell cX6_cell 5 (some .int) :: wsL_law) B.pre w (List.mem_cons_of_mem _ hw)
  have hlocks := B.notSynchronized
  have E : CallFix p m c cX6_cell 5 s args wsL_law RX6 := ⟨hx, hb, hml, findClass_of_methodNamed B.named, hts⟩
  have hB : sB D G (sA ad r n s.heap.size) s.heap ad r v n x s.heap [] := ⟨hP, sD_self hD, va_S.rf⟩
  have hgo : sGo r n ad r n ad := sGo.rf
  have h0 : n ≤ n := Nat.le_refl n
  have hl := lv_entry ([.ref (ad 0), .int x1, .int x2, .int x3]) (n := 5) (Nat.le_of_ble_eq_true rfl)
  refine W.eq (g2 := F0 m 0 ((lg_sl ([.ref (ad 0), .int x1, .int x2, .int x3]) ++ List.replicate (5 - (lg_sl ([.ref (ad 0), .int x1, .int x2, .int x3])).length) Slot.unset).toArray) []) (by rw [hargs]; exact lg_entry_eq _ _ _) ?_
  generalize (lg_sl ([.ref (ad 0), .int x1, .int x2, .int x3]) ++ List.replicate (5 - (lg_sl ([.ref (ad 0), .int x1, .int x2, .int x3])).length) Slot.unset).toArray = ls at hl ⊢
  have hl : lv_has ls 5 [(0, .ref (ad 0)), (1, .int x1), (2, .int x2), (3, .int x3)] := hl
  refine W_00 (n := n) ?_
  have hf := (fX6_cell.eq_1 ..).symm.trans hf
  refine lv_iload_n hx hb dX6_cell_0 rfl (lv_at hl 1 rfl) ?_
  refine lv_iload_n hx hb dX6_cell_1 rfl (lv_at hl 2 rfl) ?_
  refine sc_Tv htab hlocks hB hgo ⟨Nat.le_refl _, Nat.le_refl _⟩ hf he (fun q9 h9 hc9 => rS_T (As := [.int x1, .int x2]) (rest := []) E hU hZ (fun q h => Or.inr h) hB (mX6_requireCell l hst D G ad r _ n x hsh hn x1 x2 _ _ h9) (cwGS 2 okX6_requireCell wmX6_56 hts rfl rfl ⟨Nat.le_of_ble_eq_true rfl, Nat.le_of_ble_eq_true rfl⟩) rfl hl.1 (Nat.le_of_ble_eq_true rfl) dX6_cell_2 hc9 rfl) (fun rr1 v1 n1 rez hf he ad1 hg1 h0 H locs hB => ?_)
  have hl : lv_has ls 5 [(0, .ref (ad1 0)), (1, .int x1), (2, .int x2), (3, .int x3)] := by rw [(hg1.2 (0) (slt hsh hn 0 rfl)).2]; exact hl
  have hn : 172 ≤ n1 := Nat.le_trans hn hg1.1
  have hgo := hgo.trans hg1
  obtain ⟨hsh, hf⟩ := ck_e hf
  refine lv_iload_n hx hb dX6_cell_5 rfl (lv_at hl 1 rfl) ?_
  refine lv_iload_n hx hb dX6_cell_6 rfl (lv_at hl 2 rfl) ?_
  refine sc_R hf (rS_S (As := [.int x1, .int x2]) (rest := []) E (mX6_cellAt l x1 x2) (cwGS 2 okX6_cellAt wmX6_64 hts rfl rfl ⟨Nat.le_of_ble_eq_true rfl, Nat.le_of_ble_eq_true rfl⟩) rfl hl.1 (Nat.le_of_ble_eq_true rfl) dX6_cell_7 (aC he (Nat.le_add_right _ _) (Nat.le_add_right _ _)) rfl) (fun y2 hf => ?_)
  refine lv_istore (lv' := [(4, .int y2), (0, .ref (ad1 0)), (1, .int x1), (2, .int x2), (3, .int x3)]) hx hb dX6_cell_10 hl (Nat.le_of_ble_eq_true rfl) rfl (fun ls hl => ?_)
  refine lv_iload_n hx hb dX6_cell_12 rfl (lv_at hl 4 rfl) ?_
  by_cases hc0 : x3 = 0
  · have hf := ite_t hf hc0
    refine s_tsw (k := 0) (tgt := 44) hx hb dX6_cell_13 hc0 (by decide) (by decide) rfl rfl ?_
    refine lv_aload_n hx hb dX6_cell_44 rfl (lv_at hl 1 rfl) ?_
    refine s_getR (k := 0) (t := 1) E hU hB.1 sc8 (slt hsh hn 0 rfl) rfl inlX6 (Nat.le_of_ble_eq_true rfl) rfl rfl wkX6_12 (hsh.1 0 0 1 rfl) dX6_cell_45 ?_
    refine s_getR (k := 0) (t := 2) E hU hB.1 sc7 (slt hsh hn 1 rfl) rfl inlX5 (Nat.le_of_ble_eq_true rfl) rfl rfl wkX6_83 (hsh.1 1 0 2 rfl) dX6_cell_48 ?_
    refine lv_iload hx hb dX6_cell_51 (lv_at hl 0 rfl) ?_
    refine s_iald E hU hB.1 (slt hsh hn 2 rfl) rfl dX6_cell_53 hf (fun y3 hf => ?_)
    exact s_iretT E hrt hlocks hB hgo hf he dX6_cell_54
  have hf := ite_f hf hc0
  by_cases hc1 : x3 = 1
  · have hf := ite_t hf hc1
    refine s_tsw (k := 1) (tgt := 55) hx hb dX6_cell_13 hc1 (by decide) (by decide) rfl rfl ?_
    refine lv_aload_n hx hb dX6_cell_55 rfl (lv_at hl 1 rfl) ?_
    refine s_getR (k := 2) (t := 20) E hU hB.1 sc8 (slt hsh hn 0 rfl) rfl inlX6 (Nat.le_of_ble_eq_true rfl) rfl rfl wkX6_28 (hsh.1 0 2 20 rfl) dX6_cell_56 ?_
    refine lv_iload hx hb dX6_cell_59 (lv_at hl 0 rfl) ?_
    refine sc_R hf (rV_R (As := [.int y2]) (rest := []) E hU hB.1 sc2 (slt hsh hn 20 rfl) rfl (mX0_agentOn l K D G ad1 rr1 _ n1 x hsh hn 20 1 (Or.inl ⟨rfl, rfl⟩) y2) (cwGV 1 okX0_agentOn wmX6_90 hts rfl rfl ⟨Nat.le_of_ble_eq_true rfl, Nat.le_of_ble_eq_true rfl⟩) rfl hl.1 (Nat.le_of_ble_eq_true rfl) dX6_cell_61 (aC he (Nat.le_add_right _ _) (Nat.le_add_right _ _)) rfl) (fun y4 hf => ?_)
    exact s_iretT E hrt hlocks hB hgo hf he dX6_cell_64
  have hf := ite_f hf hc1
  by_cases hc2 : x3 = 2
  · have hf := ite_t hf hc2
    refine s_tsw (k := 2) (tgt := 65) hx hb dX6_cell_13 hc2 (by decide) (by decide) rfl rfl ?_
    refine lv_aload_n hx hb dX6_cell_65 rfl (lv_at hl 1 rfl) ?_
    refine s_getR (k := 0) (t := 1) E hU hB.1 sc8 (slt hsh hn 0 rfl) rfl inlX6 (Nat.le_of_ble_eq_true rfl) rfl rfl wkX6_12 (hsh.1 0 0 1 rfl) dX6_cell_66 ?_
    refine s_getR (k := 1) (t := 3) E hU hB.1 sc7 (slt hsh hn 1 rfl) rfl inlX5 (Nat.le_of_ble_eq_true rfl) rfl rfl wkX6_94 (hsh.1 1 1 3 rfl) dX6_cell_69 ?_
    refine lv_iload hx hb dX6_cell_72 (lv_at hl 0 rfl) ?_
    refine s_iald E hU hB.1 (slt hsh hn 3 rfl) rfl dX6_cell_74 hf (fun y5 hf => ?_)
    exact s_iretT E hrt hlocks hB hgo hf he dX6_cell_75
  have hf := ite_f hf hc2
  by_cases hc3 : x3 = 3
  · have hf := ite_t hf hc3
    refine s_tsw (k := 3) (tgt := 76) hx hb dX6_cell_13 hc3 (by decide) (by decide) rfl rfl ?_
    refine lv_aload_n hx hb dX6_cell_76 rfl (lv_at hl 1 rfl) ?_
    refine s_getR (k := 2) (t := 20) E hU hB.1 sc8 (slt hsh hn 0 rfl) rfl inlX6 (Nat.le_of_ble_eq_true rfl) rfl rfl wkX6_28 (hsh.1 0 2 20 rfl) dX6_cell_77 ?_
    refine lv_iload hx hb dX6_cell_80 (lv_at hl 0 rfl) ?_
    refine sc_R hf (rV_R (As := [.int y2]) (rest := []) E hU hB.1 sc2 (slt hsh hn 20 rfl) rfl (mX0_goalOn l K D G ad1 rr1 _ n1 x hsh hn 20 1 (Or.inl ⟨rfl, rfl⟩) y2) (cwGV 1 okX0_goalOn wmX6_97 hts rfl rfl ⟨Nat.le_of_ble_eq_true rfl, Nat.le_of_ble_eq_true rfl⟩) rfl hl.1 (Nat.le_of_ble_eq_true rfl) dX6_cell_82 (aC he (Nat.le_add_right _ _) (Nat.le_add_right _ _)) rfl) (fun y6 hf => ?_)
    exact s_iretT E hrt hlocks hB hgo hf he dX6_cell_85
  have hf := ite_f hf hc3
  refine lv_tableOut (tgt := 86) hx hb dX6_cell_13 (by have h0 := ni_ hc0 (z := 0) (by decide); have h1 := ni_ hc1 (z := 1) (by decide); have h2 := ni_ hc2 (z := 2) (by decide); have h3 := ni_ hc3 (z := 3) (by decide); omega) rfl ?_
  exact s_thr E hU hst hZ htab hlocks hB hgo hl.1 sxk2 (List.mem_of_getElem? (i := 1) rfl) dX6_cell_86 dX6_cell_89 dX6_cell_90 dX6_cell_92 dX6_cell_95 (Nat.le_of_ble_eq_true rfl) (Nat.le_of_ble_eq_true rfl) ⟨Nat.le_refl _, Nat.le_refl _⟩ hf he
abbrev rmX6_requireGoal (c s : Nat) : Room := { frames := 8, cells := c, slots := s, locals := 200 }
set_option maxRecDepth 100000 in
set_option maxHeartbeats 4000000 in
theorem mX6_requireGoal (l : Launch) (hst : l.stackTraces = false) (D : va_G) (G : Nat → ClassId) (ad : Nat → Nat) (r : sR) (v : sV) (n : Nat) (x : Int64 × UInt64) (hsh : sSh r) (hn : 172 ≤ n) (x0 : Int32) : sMT sQTv l yX6_requireGoal (.code yX6_requireGoal cX6_requireGoal 1 none :: wsL_law) rmX6_requireGoal D G ad r v n x [.int x0] (fX6_requireGoal x0 r v n) := by
  intro sz0 q0 hf
  obtain ⟨fin, he⟩ : ∃ fin, fin = fz n q0 := ⟨_, rfl⟩
  rw [← he]
  refine vx_ofW (cc := cX6_requireGoal) (maxL := 1) (ret := none) (by decide) rfl ?_
  intro p e s m args below meth c s₁ B hml htab hv
  obtain ⟨hargs, rfl, hU, hP, hD, hZ⟩ := hv
  have hx := B.exec
  have hb := B.bytes
  have hrt := B.returns
  have hts : ∀ w ∈ wsL_law, w.before args s = true := fun w hw => atoms_spec (ws := .code yX6_requireGoal cX6_requireGoal 1 none :: wsL_law) B.pre w (List.mem_cons_of_mem _ hw)
  have hlocks := B.notSynchronized
  have E : CallFix p m c cX6_requireGoal 1 s args wsL_law RX6 := ⟨hx, hb, hml, findClass_of_methodNamed B.named, hts⟩
  have hB : sB D G (sA ad r n s.heap.size) s.heap ad r v n x s.heap [] := ⟨hP, sD_self hD, va_S.rf⟩
  have hgo : sGo r n ad r n ad := sGo.rf
  have h0 : n ≤ n := Nat.le_refl n
  have hl := lv_entry ([.int x0]) (n := 1) (Nat.le_of_ble_eq_true rfl)
  refine W.eq (g2 := F0 m 0 ((lg_sl ([.int x0]) ++ List.replicate (1 - (lg_sl ([.int x0])).length) Slot.unset).toArray) []) (by rw [hargs]; exact lg_entry_eq _ _ _) ?_
  generalize (lg_sl ([.int x0]) ++ List.replicate (1 - (lg_sl ([.int x0])).length) Slot.unset).toArray = ls at hl ⊢
  have hl : lv_has ls 1 [(0, .int x0)] := hl
  refine W_00 (n := n) ?_
  have hf := (fX6_requireGoal.eq_1 ..).symm.trans hf
  refine lv_iload_n hx hb dX6_requireGoal_0 rfl (lv_at hl 0 rfl) ?_
  refine lv_if_lt (tgt := 9) hx hb dX6_requireGoal_1 rfl (fun hc => ?_) (fun hc => ?_)
  · have hf := ite_t hf hc
    exact s_thrW E hU hst hZ htab hlocks hB hgo hl.1 sxk1 (List.mem_of_getElem? (i := 22) rfl) dX6_requireGoal_9 dX6_requireGoal_12 dX6_requireGoal_13 dX6_requireGoal_16 dX6_requireGoal_19 (Nat.le_of_ble_eq_true rfl) (Nat.le_of_ble_eq_true rfl) ⟨Nat.le_refl _, Nat.le_refl _⟩ hf he
  · have hf := ite_f hf hc
    refine lv_iload_n hx hb dX6_requireGoal_4 rfl (lv_at hl 0 rfl) ?_
    refine lv_iconst (v := 4) hx hb dX6_requireGoal_5 rfl ?_
    refine lv_icmp_lt (tgt := 20) hx hb dX6_requireGoal_6 rfl (fun hc => ?_) (fun hc => ?_)
    · have hf := ite_t hf hc
      exact s_vretT E hrt hlocks hB hgo hf he dX6_requireGoal_20
    · have hf := ite_f hf hc
      exact s_thrW E hU hst hZ htab hlocks hB hgo hl.1 sxk1 (List.mem_of_getElem? (i := 22) rfl) dX6_requireGoal_9 dX6_requireGoal_12 dX6_requireGoal_13 dX6_requireGoal_16 dX6_requireGoal_19 (Nat.le_of_ble_eq_true rfl) (Nat.le_of_ble_eq_true rfl) ⟨Nat.le_refl _, Nat.le_refl _⟩ hf he
abbrev rmX6_setGoal (c s : Nat) : Room := { frames := 9, cells := c, slots := s, locals := 221 }
set_option maxRecDepth 100000 in
set_option maxHeartbeats 4000000 in
theorem mX6_setGoal (l : Launch) (K : Nat) (hst : l.stackTraces = false) (D : va_G) (G : Nat → ClassId) (ad : Nat → Nat) (r : sR) (v : sV) (n : Nat) (x : Int64 × UInt64) (hsh : sSh r) (hn : 172 ≤ n) (x1 : Int32) (x2 : Int32) (x3 : Int32) : sMT sQTi l yX6_setGoal (.code yX6_setGoal cX6_setGoal 5 (some .int) :: wsL_law) rmX6_setGoal D G ad r v n x [.ref (ad 0), .int x1, .int x2, .int x3] (fX6_setGoal K x1 x2 x3 r v n) := by
  intro sz0 q0 hf
  obtain ⟨fin, he⟩ : ∃ fin, fin = fz n q0 := ⟨_, rfl⟩
  rw [← he]
  refine vx_ofW (cc := cX6_setGoal) (maxL := 5) (ret := (some .int)) (by decide) rfl ?_
  intro p e s m args below meth c s₁ B hml htab hv
  obtain ⟨hargs, rfl, hU, hP, hD, hZ⟩ := hv
  have hx := B.exec
  have hb := B.bytes
  have hrt := B.returns
  have hts : ∀ w ∈ wsL_law, w.before args s = true := fun w hw => atoms_spec (ws := .code yX6_setGoal cX6_setGoal 5 (some .int) :: wsL_law) B.pre w (List.mem_cons_of_mem _ hw)
  have hlocks := B.notSynchronized
  have E : CallFix p m c cX6_setGoal 5 s args wsL_law RX6 := ⟨hx, hb, hml, findClass_of_methodNamed B.named, hts⟩
  have hB : sB D G (sA ad r n s.heap.size) s.heap ad r v n x s.heap [] := ⟨hP, sD_self hD, va_S.rf⟩
  have hgo : sGo r n ad r n ad := sGo.rf
  have h0 : n ≤ n := Nat.le_refl n
  have hl := lv_entry ([.ref (ad 0), .int x1, .int x2, .int x3]) (n := 5) (Nat.le_of_ble_eq_true rfl)
  refine W.eq (g2 := F0 m 0 ((lg_sl ([.ref (ad 0), .int x1, .int x2, .int x3]) ++ List.replicate (5 - (lg_sl ([.ref (ad 0), .int x1, .int x2, .int x3])).length) Slot.unset).toArray) []) (by rw [hargs]; exact lg_entry_eq _ _ _) ?_
  generalize (lg_sl ([.ref (ad 0), .int x1, .int x2, .int x3]) ++ List.replicate (5 - (lg_sl ([.ref (ad 0), .int x1, .int x2, .int x3])).length) Slot.unset).toArray = ls at hl ⊢
  have hl : lv_has ls 5 [(0, .ref (ad 0)), (1, .int x1), (2, .int x2), (3, .int x3)] := hl
  refine W_00 (n := n) ?_
  have hf := (fX6_setGoal.eq_1 ..).symm.trans hf
  refine lv_iload_n hx hb dX6_setGoal_0 rfl (lv_at hl 1 rfl) ?_
  refine sc_Tv htab hlocks hB hgo ⟨Nat.le_refl _, Nat.le_refl _⟩ hf he (fun q9 h9 hc9 => rS_T (As := [.int x1]) (rest := []) E hU hZ (fun q h => Or.inr h) hB (mX6_requireGoal l hst D G ad r _ n x hsh hn x1 _ _ h9) (cwGS 1 okX6_requireGoal wmX6_105 hts rfl rfl ⟨Nat.le_of_ble_eq_true rfl, Nat.le_of_ble_eq_true rfl⟩) rfl hl.1 (Nat.le_of_ble_eq_true rfl) dX6_setGoal_1 hc9 rfl) (fun rr1 v1 n1 rez hf he ad1 hg1 h0 H locs hB => ?_)
  have hl : lv_has ls 5 [(0, .ref (ad1 0)), (1, .int x1), (2, .int x2), (3, .int x3)] := by rw [(hg1.2 (0) (slt hsh hn 0 rfl)).2]; exact hl
  have hn : 172 ≤ n1 := Nat.le_trans hn hg1.1
  have hgo := hgo.trans hg1
  obtain ⟨hsh, hf⟩ := ck_e hf
  refine lv_iload_n hx hb dX6_setGoal_4 rfl (lv_at hl 2 rfl) ?_
  refine lv_iload_n hx hb dX6_setGoal_5 rfl (lv_at hl 3 rfl) ?_
  refine sc_Tv htab hlocks hB hgo ⟨Nat.le_refl _, Nat.le_refl _⟩ hf he (fun q9 h9 hc9 => rS_T (As := [.int x2, .int x3]) (rest := []) E hU hZ (fun q h => Or.inr h) hB (mX6_requireCell l hst D G ad1 rr1 _ n1 x hsh hn x2 x3 _ _ h9) (cwGS 2 okX6_requireCell wmX6_56 hts rfl rfl ⟨Nat.le_of_ble_eq_true rfl, Nat.le_of_ble_eq_true rfl⟩) rfl hl.1 (Nat.le_of_ble_eq_true rfl) dX6_setGoal_6 hc9 rfl) (fun rr2 v2 n2 rez hf he ad2 hg2 h0 H locs hB => ?_)
  have hl : lv_has ls 5 [(0, .ref (ad2 0)), (1, .int x1), (2, .int x2), (3, .int x3)] := by rw [(hg2.2 (0) (slt hsh hn 0 rfl)).2]; exact hl
  have hn : 172 ≤ n2 := Nat.le_trans hn hg2.1
  have hgo := hgo.trans hg2
  obtain ⟨hsh, hf⟩ := ck_e hf
  refine lv_iload_n hx hb dX6_setGoal_9 rfl (lv_at hl 2 rfl) ?_
  refine lv_iload_n hx hb dX6_setGoal_10 rfl (lv_at hl 3 rfl) ?_
  refine sc_R hf (rS_S (As := [.int x2, .int x3]) (rest := []) E (mX6_cellAt l x2 x3) (cwGS 2 okX6_cellAt wmX6_64 hts rfl rfl ⟨Nat.le_of_ble_eq_true rfl, Nat.le_of_ble_eq_true rfl⟩) rfl hl.1 (Nat.le_of_ble_eq_true rfl) dX6_setGoal_11 (aC he (Nat.le_add_right _ _) (Nat.le_add_right _ _)) rfl) (fun y3 hf => ?_)
  refine lv_istore (lv' := [(4, .int y3), (0, .ref (ad2 0)), (1, .int x1), (2, .int x2), (3, .int x3)]) hx hb dX6_setGoal_14 hl (Nat.le_of_ble_eq_true rfl) rfl (fun ls hl => ?_)
  refine lv_aload_n hx hb dX6_setGoal_16 rfl (lv_at hl 1 rfl) ?_
  refine s_getR (k := 0) (t := 1) E hU hB.1 sc8 (slt hsh hn 0 rfl) rfl inlX6 (Nat.le_of_ble_eq_true rfl) rfl rfl wkX6_12 (hsh.1 0 0 1 rfl) dX6_setGoal_17 ?_
  refine s_getR (k := 0) (t := 2) E hU hB.1 sc7 (slt hsh hn 1 rfl) rfl inlX5 (Nat.le_of_ble_eq_true rfl) rfl rfl wkX6_83 (hsh.1 1 0 2 rfl) dX6_setGoal_20 ?_
  refine lv_iload hx hb dX6_setGoal_23 (lv_at hl 0 rfl) ?_
  refine s_iald E hU hB.1 (slt hsh hn 2 rfl) rfl dX6_setGoal_25 hf (fun y4 hf => ?_)
  refine lv_if_ne (tgt := 39) hx hb dX6_setGoal_26 rfl (fun hc => ?_) (fun hc => ?_)
  · have hf := ite_f hf hc
    refine lv_aload_n hx hb dX6_setGoal_39 rfl (lv_at hl 1 rfl) ?_
    refine s_getR (k := 4) (t := 35) E hU hB.1 sc8 (slt hsh hn 0 rfl) rfl inlX6 (Nat.le_of_ble_eq_true rfl) rfl rfl wkX6_38 (hsh.1 0 4 35 rfl) dX6_setGoal_40 ?_
    refine lv_aload_n hx hb dX6_setGoal_43 rfl (lv_at hl 1 rfl) ?_
    refine s_getR (k := 0) (t := 1) E hU hB.1 sc8 (slt hsh hn 0 rfl) rfl inlX6 (Nat.le_of_ble_eq_true rfl) rfl rfl wkX6_12 (hsh.1 0 0 1 rfl) dX6_setGoal_44 ?_
    refine sc_Av hB (fun q h => Or.inr h) h0 ⟨Nat.le_add_right _ _, Nat.le_add_right _ _⟩ hf he (fun q9 h9 hc9 => rV_A (As := [.ref (ad2 1)]) (rest := []) E hU hB sc5 (slt hsh hn 35 rfl) rfl (mX3_record l K D G ad2 rr2 _ n2 x hsh hn 1 (Or.inl (by decide)) _ _ h9) (cwGV 1 okX3_record wmX6_79 hts rfl rfl ⟨Nat.le_of_ble_eq_true rfl, Nat.le_of_ble_eq_true rfl⟩) rfl hl.1 (Nat.le_of_ble_eq_true rfl) dX6_setGoal_47 hc9 rfl) (fun rr5 v5 n5 rez hf he ad5 hg5 h0 H locs hB => ?_)
    have hl : lv_has ls 5 [(4, .int y3), (0, .ref (ad5 0)), (1, .int x1), (2, .int x2), (3, .int x3)] := by rw [(hg5.2 (0) (slt hsh hn 0 rfl)).2]; exact hl
    have hn : 172 ≤ n5 := Nat.le_trans hn hg5.1
    have hgo := hgo.trans hg5
    obtain ⟨hsh, hf⟩ := ck_e hf
    refine lv_aload_n hx hb dX6_setGoal_50 rfl (lv_at hl 1 rfl) ?_
    refine s_getR (k := 0) (t := 1) E hU hB.1 sc8 (slt hsh hn 0 rfl) rfl inlX6 (Nat.le_of_ble_eq_true rfl) rfl rfl wkX6_12 (hsh.1 0 0 1 rfl) dX6_setGoal_51 ?_
    refine s_getR (k := 2) (t := 4) E hU hB.1 sc7 (slt hsh hn 1 rfl) rfl inlX5 (Nat.le_of_ble_eq_true rfl) rfl rfl wkX6_111 (hsh.1 1 2 4 rfl) dX6_setGoal_54 ?_
    refine lv_iload_n hx hb dX6_setGoal_57 rfl (lv_at hl 2 rfl) ?_
    refine lv_iload hx hb dX6_setGoal_58 (lv_at hl 0 rfl) ?_
    refine s_iast E hU hB (slt hsh hn 4 rfl) rfl dX6_setGoal_60 hf (fun v6 hf H locs hB => ?_)
    refine lv_aload_n hx hb dX6_setGoal_61 rfl (lv_at hl 1 rfl) ?_
    refine s_getR (k := 1) (t := 14) E hU hB.1 sc8 (slt hsh hn 0 rfl) rfl inlX6 (Nat.le_of_ble_eq_true rfl) rfl rfl wkX6_19 (hsh.1 0 1 14 rfl) dX6_setGoal_62 ?_
    refine lv_iload hx hb dX6_setGoal_65 (lv_at hl 0 rfl) ?_
    refine lv_aload_n hx hb dX6_setGoal_67 rfl (lv_at hl 1 rfl) ?_
    refine s_getR (k := 0) (t := 1) E hU hB.1 sc8 (slt hsh hn 0 rfl) rfl inlX6 (Nat.le_of_ble_eq_true rfl) rfl rfl wkX6_12 (hsh.1 0 0 1 rfl) dX6_setGoal_68 ?_
    refine s_getR (k := 0) (t := 2) E hU hB.1 sc7 (slt hsh hn 1 rfl) rfl inlX5 (Nat.le_of_ble_eq_true rfl) rfl rfl wkX6_83 (hsh.1 1 0 2 rfl) dX6_setGoal_71 ?_
    refine sc_Ar hB (fun q h => Or.inr h) h0 ⟨Nat.le_add_right _ _, Nat.le_add_right _ _⟩ hf he (fun q9 h9 hc9 => rV_A (As := [.int y3, .ref (ad5 2)]) (rest := []) E hU hB sc4 (slt hsh hn 14 rfl) rfl (mX2_toward l K D G ad5 rr5 _ n5 x hsh hn 2 rfl (slt hsh hn 2 rfl) y3 _ _ h9) (cwGV 2 okX2_toward wmX6_114 hts rfl rfl ⟨Nat.le_of_ble_eq_true rfl, Nat.le_of_ble_eq_true rfl⟩) rfl hl.1 (Nat.le_of_ble_eq_true rfl) dX6_setGoal_74 hc9 rfl) (fun y7 rr7 v7 n7 rez hf he ad7 hg7 h0 H locs hB => ?_)
    have hl : lv_has ls 5 [(4, .int y3), (0, .ref (ad7 0)), (1, .int x1), (2, .int x2), (3, .int x3)] := by rw [(hg7.2 (0) (slt hsh hn 0 rfl)).2]; exact hl
    have hn : 172 ≤ n7 := Nat.le_trans hn hg7.1
    have hgo := hgo.trans hg7
    obtain ⟨⟨hsh, hy7⟩, hf⟩ := ck_e hf
    refine sc_R hf (rV_R (As := []) (rest := []) E hU hB.1 sc3 (okF_lt hy7) (okF_k hy7) (mX1_reachedCells l K D G ad7 rr7 _ n7 x hsh hn y7 hy7) (cwGV 0 okX1_reachedCells wmX6_118 hts rfl rfl ⟨Nat.le_of_ble_eq_true rfl, Nat.le_of_ble_eq_true rfl⟩) rfl hl.1 (Nat.le_of_ble_eq_true rfl) dX6_setGoal_77 (aC he (Nat.le_add_right _ _) (Nat.le_add_right _ _)) rfl) (fun y8 hf => ?_)
    exact s_iretT E hrt hlocks hB hgo hf he dX6_setGoal_80
  · have hf := ite_t hf hc
    exact s_thr E hU hst hZ htab hlocks hB hgo hl.1 sxk3 (List.mem_of_getElem? (i := 2) rfl) dX6_setGoal_29 dX6_setGoal_32 dX6_setGoal_33 dX6_setGoal_35 dX6_setGoal_38 (Nat.le_of_ble_eq_true rfl) (Nat.le_of_ble_eq_true rfl) ⟨Nat.le_refl _, Nat.le_refl _⟩ hf he
abbrev rmX6_requireSetGoal (c s : Nat) : Room := { frames := 8, cells := c, slots := s, locals := 200 }
set_option maxRecDepth 100000 in
set_option maxHeartbeats 4000000 in
theorem mX6_requireSetGoal (l : Launch) (hst : l.stackTraces = false) (D : va_G) (G : Nat → ClassId) (ad : Nat → Nat) (r : sR) (v : sV) (n : Nat) (x : Int64 × UInt64) (hsh : sSh r) (hn : 172 ≤ n) (x1 : Int32) : sMT sQTv l yX6_requireSetGoal (.code yX6_requireSetGoal cX6_requireSetGoal 2 none :: wsL_law) rmX6_requireSetGoal D G ad r v n x [.ref (ad 0), .int x1] (fX6_requireSetGoal x1 r v n) := by
  intro sz0 q0 hf
  obtain ⟨fin, he⟩ : ∃ fin, fin = fz n q0 := ⟨_, rfl⟩
  rw [← he]
  refine vx_ofW (cc := cX6_requireSetGoal) (maxL := 2) (ret := none) (by decide) rfl ?_
  intro p e s m args below meth c s₁ B hml htab hv
  obtain ⟨hargs, rfl, hU, hP, hD, hZ⟩ := hv
  have hx := B.exec
  have hb := B.bytes
  have hrt := B.returns
  have hts : ∀ w ∈ wsL_law, w.before args s = true := fun w hw => atoms_spec (ws := .code yX6_requireSetGoal cX6_requireSetGoal 2 none :: wsL_law) B.pre w (List.mem_cons_of_mem _ hw)
  have hlocks := B.notSynchronized
  have E : CallFix p m c cX6_requireSetGoal 2 s args wsL_law RX6 := ⟨hx, hb, hml, findClass_of_methodNamed B.named, hts⟩
  have hB : sB D G (sA ad r n s.heap.size) s.heap ad r v n x s.heap [] := ⟨hP, sD_self hD, va_S.rf⟩
  have hgo : sGo r n ad r n ad := sGo.rf
  have h0 : n ≤ n := Nat.le_refl n
  have hl := lv_entry ([.ref (ad 0), .int x1]) (n := 2) (Nat.le_of_ble_eq_true rfl)
  refine W.eq (g2 := F0 m 0 ((lg_sl ([.ref (ad 0), .int x1]) ++ List.replicate (2 - (lg_sl ([.ref (ad 0), .int x1])).length) Slot.unset).toArray) []) (by rw [hargs]; exact lg_entry_eq _ _ _) ?_
  generalize (lg_sl ([.ref (ad 0), .int x1]) ++ List.replicate (2 - (lg_sl ([.ref (ad 0), .int x1])).length) Slot.unset).toArray = ls at hl ⊢
  have hl : lv_has ls 2 [(0, .ref (ad 0)), (1, .int x1)] := hl
  refine W_00 (n := n) ?_
  have hf := (fX6_requireSetGoal.eq_1 ..).symm.trans hf
  refine lv_aload_n hx hb dX6_requireSetGoal_0 rfl (lv_at hl 0 rfl) ?_
  refine s_getR (k := 0) (t := 1) E hU hB.1 sc8 (slt hsh hn 0 rfl) rfl inlX6 (Nat.le_of_ble_eq_true rfl) rfl rfl wkX6_12 (hsh.1 0 0 1 rfl) dX6_requireSetGoal_1 ?_
  refine s_getR (k := 2) (t := 4) E hU hB.1 sc7 (slt hsh hn 1 rfl) rfl inlX5 (Nat.le_of_ble_eq_true rfl) rfl rfl wkX6_111 (hsh.1 1 2 4 rfl) dX6_requireSetGoal_4 ?_
  refine lv_iload_n hx hb dX6_requireSetGoal_7 rfl (lv_at hl 1 rfl) ?_
  refine s_iald E hU hB.1 (slt hsh hn 4 rfl) rfl dX6_requireSetGoal_8 hf (fun y1 hf => ?_)
  refine lv_iconst (v := (-1)) hx hb dX6_requireSetGoal_9 rfl ?_
  refine lv_icmp_ne (tgt := 24) hx hb dX6_requireSetGoal_10 rfl (fun hc => ?_) (fun hc => ?_)
  · have hf := ite_f hf hc
    exact s_vretT E hrt hlocks hB hgo hf he dX6_requireSetGoal_24
  · have hf := ite_t hf hc
    exact s_thrWN E hU hst hZ htab hlocks hB hgo hl.1 sxk4 (List.mem_of_getElem? (i := 23) rfl) dX6_requireSetGoal_13 dX6_requireSetGoal_16 dX6_requireSetGoal_17 dX6_requireSetGoal_20 dX6_requireSetGoal_23 (Nat.le_of_ble_eq_true rfl) (Nat.le_of_ble_eq_true rfl) ⟨Nat.le_refl _, Nat.le_refl _⟩ hf he
abbrev rmX6_dropGoal (c s : Nat) : Room := { frames := 9, cells := c, slots := s, locals := 221 }
set_option maxRecDepth 100000 in
set_option maxHeartbeats 4000000 in
theorem lX6_dropGoal_34 {K : Nat} {x1 : Int32} {ad0 : Nat → Nat} {r0 : sR} {n0 : Nat} {fin : (Sum Int32 Nat × sR × sV × Nat)} (E : CallFix p m c cX6_dropGoal 4 s args wsL_law RX6) (hlocks : meth.locks = false) (hrt : meth.sig.returnType = (some .int)) (hU : sU D G s) (hst : l.stackTraces = false) (hZ : sZ (sA ad0 r0 n0 s.heap.size) s) (htab : ∀ x ∈ c.exceptionTable.toList, False) :
    ∀ (k : Nat) (x2 : Int32) (x3 : Int32) (r : sR) (v : sV) (n : Nat) (ad : Nat → Nat) (H : Heap) (locs : List Loc) (ls : Array Slot) (rez : (Sum Int32 Nat × sR × sV × Nat)), sSh r → 172 ≤ n → sGo r0 n0 ad0 r n ad → fx5 (gX6_dropGoal_34 K x1) k x2 x3 r v n = some rez → fin = fz n rez → sB D G (sA ad0 r0 n0 s.heap.size) s.heap ad r v n x H locs → lv_has ls 4 [(0, .ref (ad 0)), (1, .int x1), (2, .int x2), (3, .int x3)] → W p l e (rmX6_dropGoal (mcT n0 fin) (msT n0 fin)) s m args below meth c H locs (n - n0) (sz n - sz n0) (vx_MQ below (sQTi D G ad0 r0 n0 x s.heap.size fin) (sXC D G ad0 r0 n0 x s.heap.size fin) args s (mcT n0 fin) (msT n0 fin) (sA ad0 r0 n0 s.heap.size)) (F0 m 34 ls []) := by
  have hx := E.1
  have hb := E.2.1
  have hts := E.2.2.2.2
  intro k
  induction k with
  | zero =>
    intro x2 x3 r v n ad H locs ls rez hsh hn hgo hf he hB hl
    exact fx5_z hf
  | succ k ih =>
    intro x2 x3 r v n ad H locs ls rez hsh hn hgo hf he hB hl
    have h0 := hgo.1
    have hf := (gX6_dropGoal_34.eq_1 ..).symm.trans hf
    refine lv_iload_n hx hb dX6_dropGoal_34 rfl (lv_at hl 3 rfl) ?_
    refine lv_bipush (v := 16) hx hb dX6_dropGoal_35 rfl ?_
    refine lv_icmp_ge (tgt := 73) hx hb dX6_dropGoal_37 rfl (fun hc => ?_) (fun hc => ?_)
    · have hf := ite_t hf hc
      refine lv_iload_n hx hb dX6_dropGoal_73 rfl (lv_at hl 2 rfl) ?_
      exact s_iretT E hrt hlocks hB hgo hf he dX6_dropGoal_74
    · have hf := ite_f hf hc
      refine lv_aload_n hx hb dX6_dropGoal_40 rfl (lv_at hl 0 rfl) ?_
      refine s_getR (k := 2) (t := 20) E hU hB.1 sc8 (slt hsh hn 0 rfl) rfl inlX6 (Nat.le_of_ble_eq_true rfl) rfl rfl wkX6_28 (hsh.1 0 2 20 rfl) dX6_dropGoal_41 ?_
      refine lv_iload_n hx hb dX6_dropGoal_44 rfl (lv_at hl 3 rfl) ?_
      refine sc_R hf (rV_R (As := [.int x3]) (rest := []) E hU hB.1 sc2 (slt hsh hn 20 rfl) rfl (mX0_exists l D G ad r _ n x hsh hn 20 1 (Or.inl ⟨rfl, rfl⟩) x3) (cwGV 1 okX0_exists wmX6_127 hts rfl rfl ⟨Nat.le_of_ble_eq_true rfl, Nat.le_of_ble_eq_true rfl⟩) rfl hl.1 (Nat.le_of_ble_eq_true rfl) dX6_dropGoal_45 (aC he (Nat.le_add_right _ _) (Nat.le_add_right _ _)) rfl) (fun y5 hf => ?_)
      refine lv_if_eq (tgt := 67) hx hb dX6_dropGoal_48 rfl (fun hc => ?_) (fun hc => ?_)
      · have hf := ite_t hf hc
        obtain ⟨z6, ez9, hf⟩ := nm_x hf
        refine lv_iinc (v := z6) (lv' := [(3, .int z6), (0, .ref (ad 0)), (1, .int x1), (2, .int x2)]) hx hb dX6_dropGoal_67 hl (k := 3) rfl (by rw [ez9]; rfl) (Nat.le_of_ble_eq_true rfl) rfl (fun ls hl => ?_)
        refine lv_goto (tgt := 34) hx hb dX6_dropGoal_70 rfl ?_
        exact ih _ _ _ _ _ _ _ _ _ _ hsh hn hgo hf he hB (lv_sub hl [1, 2, 3, 0] rfl)
      · have hf := ite_f hf hc
        refine lv_aload_n hx hb dX6_dropGoal_51 rfl (lv_at hl 0 rfl) ?_
        refine s_getR (k := 0) (t := 1) E hU hB.1 sc8 (slt hsh hn 0 rfl) rfl inlX6 (Nat.le_of_ble_eq_true rfl) rfl rfl wkX6_12 (hsh.1 0 0 1 rfl) dX6_dropGoal_52 ?_
        refine s_getR (k := 4) (t := 6) E hU hB.1 sc7 (slt hsh hn 1 rfl) rfl inlX5 (Nat.le_of_ble_eq_true rfl) rfl rfl wkX6_130 (hsh.1 1 4 6 rfl) dX6_dropGoal_55 ?_
        refine lv_iload_n hx hb dX6_dropGoal_58 rfl (lv_at hl 3 rfl) ?_
        refine s_iald E hU hB.1 (slt hsh hn 6 rfl) rfl dX6_dropGoal_59 hf (fun y7 hf => ?_)
        refine lv_iload_n hx hb dX6_dropGoal_60 rfl (lv_at hl 1 rfl) ?_
        refine lv_icmp_ne (tgt := 67) hx hb dX6_dropGoal_61 rfl (fun hc => ?_) (fun hc => ?_)
        · have hf := ite_f hf hc
          obtain ⟨z8, ez9, hf⟩ := nm_x hf
          refine lv_iinc (v := z8) (lv' := [(3, .int z8), (0, .ref (ad 0)), (1, .int x1), (2, .int x2)]) hx hb dX6_dropGoal_67 hl (k := 3) rfl (by rw [ez9]; rfl) (Nat.le_of_ble_eq_true rfl) rfl (fun ls hl => ?_)
          refine lv_goto (tgt := 34) hx hb dX6_dropGoal_70 rfl ?_
          exact ih _ _ _ _ _ _ _ _ _ _ hsh hn hgo hf he hB (lv_sub hl [1, 2, 3, 0] rfl)
        · have hf := ite_t hf hc
          obtain ⟨z9, ez9, hf⟩ := nm_x hf
          refine lv_iinc (v := z9) (lv' := [(2, .int z9), (0, .ref (ad 0)), (1, .int x1), (3, .int x3)]) hx hb dX6_dropGoal_64 hl (k := 2) rfl (by rw [ez9]; rfl) (Nat.le_of_ble_eq_true rfl) rfl (fun ls hl => ?_)
          obtain ⟨z10, ez9, hf⟩ := nm_x hf
          refine lv_iinc (v := z10) (lv' := [(3, .int z10), (2, .int z9), (0, .ref (ad 0)), (1, .int x1)]) hx hb dX6_dropGoal_67 hl (k := 3) rfl (by rw [ez9]; rfl) (Nat.le_of_ble_eq_true rfl) rfl (fun ls hl => ?_)
          refine lv_goto (tgt := 34) hx hb dX6_dropGoal_70 rfl ?_
          exact ih _ _ _ _ _ _ _ _ _ _ hsh hn hgo hf he hB (lv_sub hl [2, 3, 1, 0] rfl)
set_option maxRecDepth 100000 in
set_option maxHeartbeats 4000000 in
theorem mX6_dropGoal (l : Launch) (K : Nat) (hst : l.stackTraces = false) (D : va_G) (G : Nat → ClassId) (ad : Nat → Nat) (r : sR) (v : sV) (n : Nat) (x : Int64 × UInt64) (hsh : sSh r) (hn : 172 ≤ n) (x1 : Int32) : sMT sQTi l yX6_dropGoal (.code yX6_dropGoal cX6_dropGoal 4 (some .int) :: wsL_law) rmX6_dropGoal D G ad r v n x [.ref (ad 0), .int x1] (fX6_dropGoal K x1 r v n) := by
  intro sz0 q0 hf
  obtain ⟨fin, he⟩ : ∃ fin, fin = fz n q0 := ⟨_, rfl⟩
  rw [← he]
  refine vx_ofW (cc := cX6_dropGoal) (maxL := 4) (ret := (some .int)) (by decide) rfl ?_
  intro p e s m args below meth c s₁ B hml htab hv
  obtain ⟨hargs, rfl, hU, hP, hD, hZ⟩ := hv
  have hx := B.exec
  have hb := B.bytes
  have hrt := B.returns
  have hts : ∀ w ∈ wsL_law, w.before args s = true := fun w hw => atoms_spec (ws := .code yX6_dropGoal cX6_dropGoal 4 (some .int) :: wsL_law) B.pre w (List.mem_cons_of_mem _ hw)
  have hlocks := B.notSynchronized
  have E : CallFix p m c cX6_dropGoal 4 s args wsL_law RX6 := ⟨hx, hb, hml, findClass_of_methodNamed B.named, hts⟩
  have hB : sB D G (sA ad r n s.heap.size) s.heap ad r v n x s.heap [] := ⟨hP, sD_self hD, va_S.rf⟩
  have hgo : sGo r n ad r n ad := sGo.rf
  have h0 : n ≤ n := Nat.le_refl n
  have hl := lv_entry ([.ref (ad 0), .int x1]) (n := 4) (Nat.le_of_ble_eq_true rfl)
  refine W.eq (g2 := F0 m 0 ((lg_sl ([.ref (ad 0), .int x1]) ++ List.replicate (4 - (lg_sl ([.ref (ad 0), .int x1])).length) Slot.unset).toArray) []) (by rw [hargs]; exact lg_entry_eq _ _ _) ?_
  generalize (lg_sl ([.ref (ad 0), .int x1]) ++ List.replicate (4 - (lg_sl ([.ref (ad 0), .int x1])).length) Slot.unset).toArray = ls at hl ⊢
  have hl : lv_has ls 4 [(0, .ref (ad 0)), (1, .int x1)] := hl
  refine W_00 (n := n) ?_
  have hf := (fX6_dropGoal.eq_1 ..).symm.trans hf
  refine lv_iload_n hx hb dX6_dropGoal_0 rfl (lv_at hl 1 rfl) ?_
  refine sc_Tv htab hlocks hB hgo ⟨Nat.le_refl _, Nat.le_refl _⟩ hf he (fun q9 h9 hc9 => rS_T (As := [.int x1]) (rest := []) E hU hZ (fun q h => Or.inr h) hB (mX6_requireGoal l hst D G ad r _ n x hsh hn x1 _ _ h9) (cwGS 1 okX6_requireGoal wmX6_105 hts rfl rfl ⟨Nat.le_of_ble_eq_true rfl, Nat.le_of_ble_eq_true rfl⟩) rfl hl.1 (Nat.le_of_ble_eq_true rfl) dX6_dropGoal_1 hc9 rfl) (fun rr1 v1 n1 rez hf he ad1 hg1 h0 H locs hB => ?_)
  have hl : lv_has ls 4 [(0, .ref (ad1 0)), (1, .int x1)] := by rw [(hg1.2 (0) (slt hsh hn 0 rfl)).2]; exact hl
  have hn : 172 ≤ n1 := Nat.le_trans hn hg1.1
  have hgo := hgo.trans hg1
  obtain ⟨hsh, hf⟩ := ck_e hf
  refine lv_aload_n hx hb dX6_dropGoal_4 rfl (lv_at hl 0 rfl) ?_
  refine lv_iload_n hx hb dX6_dropGoal_5 rfl (lv_at hl 1 rfl) ?_
  refine sc_Tv htab hlocks hB hgo ⟨Nat.le_refl _, Nat.le_refl _⟩ hf he (fun q9 h9 hc9 => rV_T (As := [.int x1]) (rest := []) E hU hZ (fun q h => Or.inr h) hB sc8 (slt hsh hn 0 rfl) rfl (mX6_requireSetGoal l hst D G ad1 rr1 _ n1 x hsh hn x1 _ _ h9) (cwGV 1 okX6_requireSetGoal wmX6_124 hts rfl rfl ⟨Nat.le_of_ble_eq_true rfl, Nat.le_of_ble_eq_true rfl⟩) rfl hl.1 (Nat.le_of_ble_eq_true rfl) dX6_dropGoal_6 hc9 rfl) (fun rr2 v2 n2 rez hf he ad2 hg2 h0 H locs hB => ?_)
  have hl : lv_has ls 4 [(0, .ref (ad2 0)), (1, .int x1)] := by rw [(hg2.2 (0) (slt hsh hn 0 rfl)).2]; exact hl
  have hn : 172 ≤ n2 := Nat.le_trans hn hg2.1
  have hgo := hgo.trans hg2
  obtain ⟨hsh, hf⟩ := ck_e hf
  refine lv_aload_n hx hb dX6_dropGoal_9 rfl (lv_at hl 0 rfl) ?_
  refine s_getR (k := 4) (t := 35) E hU hB.1 sc8 (slt hsh hn 0 rfl) rfl inlX6 (Nat.le_of_ble_eq_true rfl) rfl rfl wkX6_38 (hsh.1 0 4 35 rfl) dX6_dropGoal_10 ?_
  refine lv_aload_n hx hb dX6_dropGoal_13 rfl (lv_at hl 0 rfl) ?_
  refine s_getR (k := 0) (t := 1) E hU hB.1 sc8 (slt hsh hn 0 rfl) rfl inlX6 (Nat.le_of_ble_eq_true rfl) rfl rfl wkX6_12 (hsh.1 0 0 1 rfl) dX6_dropGoal_14 ?_
  refine sc_Av hB (fun q h => Or.inr h) h0 ⟨Nat.le_add_right _ _, Nat.le_add_right _ _⟩ hf he (fun q9 h9 hc9 => rV_A (As := [.ref (ad2 1)]) (rest := []) E hU hB sc5 (slt hsh hn 35 rfl) rfl (mX3_record l K D G ad2 rr2 _ n2 x hsh hn 1 (Or.inl (by decide)) _ _ h9) (cwGV 1 okX3_record wmX6_79 hts rfl rfl ⟨Nat.le_of_ble_eq_true rfl, Nat.le_of_ble_eq_true rfl⟩) rfl hl.1 (Nat.le_of_ble_eq_true rfl) dX6_dropGoal_17 hc9 rfl) (fun rr3 v3 n3 rez hf he ad3 hg3 h0 H locs hB => ?_)
  have hl : lv_has ls 4 [(0, .ref (ad3 0)), (1, .int x1)] := by rw [(hg3.2 (0) (slt hsh hn 0 rfl)).2]; exact hl
  have hn : 172 ≤ n3 := Nat.le_trans hn hg3.1
  have hgo := hgo.trans hg3
  obtain ⟨hsh, hf⟩ := ck_e hf
  refine lv_aload_n hx hb dX6_dropGoal_20 rfl (lv_at hl 0 rfl) ?_
  refine s_getR (k := 0) (t := 1) E hU hB.1 sc8 (slt hsh hn 0 rfl) rfl inlX6 (Nat.le_of_ble_eq_true rfl) rfl rfl wkX6_12 (hsh.1 0 0 1 rfl) dX6_dropGoal_21 ?_
  refine s_getR (k := 2) (t := 4) E hU hB.1 sc7 (slt hsh hn 1 rfl) rfl inlX5 (Nat.le_of_ble_eq_true rfl) rfl rfl wkX6_111 (hsh.1 1 2 4 rfl) dX6_dropGoal_24 ?_
  refine lv_iload_n hx hb dX6_dropGoal_27 rfl (lv_at hl 1 rfl) ?_
  refine lv_iconst (v := (-1)) hx hb dX6_dropGoal_28 rfl ?_
  refine s_iast E hU hB (slt hsh hn 4 rfl) rfl dX6_dropGoal_29 hf (fun v4 hf H locs hB => ?_)
  refine lv_iconst (v := 0) hx hb dX6_dropGoal_30 rfl ?_
  refine lv_istore_n (lv' := [(2, .int 0), (0, .ref (ad3 0)), (1, .int x1)]) hx hb dX6_dropGoal_31 rfl hl (Nat.le_of_ble_eq_true rfl) rfl (fun ls hl => ?_)
  refine lv_iconst (v := 0) hx hb dX6_dropGoal_32 rfl ?_
  refine lv_istore_n (lv' := [(3, .int 0), (2, .int 0), (0, .ref (ad3 0)), (1, .int x1)]) hx hb dX6_dropGoal_33 rfl hl (Nat.le_of_ble_eq_true rfl) rfl (fun ls hl => ?_)
  exact lX6_dropGoal_34 E hlocks hrt hU hst hZ htab _ _ _ _ _ _ _ _ _ _ _ hsh hn hgo hf he hB (lv_sub hl [2, 3, 1, 0] rfl)
abbrev rmX6_fieldOfGoal (c s : Nat) : Room := { frames := 9, cells := c, slots := s, locals := 221 }
set_option maxRecDepth 100000 in
set_option maxHeartbeats 4000000 in
theorem mX6_fieldOfGoal (l : Launch) (K : Nat) (hst : l.stackTraces = false) (D : va_G) (G : Nat → ClassId) (ad : Nat → Nat) (r : sR) (v : sV) (n : Nat) (x : Int64 × UInt64) (hsh : sSh r) (hn : 172 ≤ n) (x1 : Int32) (x2 : Int32) (x3 : Int32) : sMT sQTr l yX6_fieldOfGoal (.code yX6_fieldOfGoal cX6_fieldOfGoal 4 (some (.object "CrowdSimulator$Field")) :: wsL_law) rmX6_fieldOfGoal D G ad r v n x [.ref (ad 0), .int x1, .int x2, .int x3] (fX6_fieldOfGoal K x1 x2 x3 r v n) := by
  intro sz0 q0 hf
  obtain ⟨fin, he⟩ : ∃ fin, fin = fz n q0 := ⟨_, rfl⟩
  rw [← he]
  refine vx_ofW (cc := cX6_fieldOfGoal) (maxL := 4) (ret := (some (.object "CrowdSimulator$Field"))) (by decide) rfl ?_
  intro p e s m args below meth c s₁ B hml htab hv
  obtain ⟨hargs, rfl, hU, hP, hD, hZ⟩ := hv
  have hx := B.exec
  have hb := B.bytes
  have hrt := B.returns
  have hts : ∀ w ∈ wsL_law, w.before args s = true := fun w hw => atoms_spec (ws := .code yX6_fieldOfGoal cX6_fieldOfGoal 4 (some (.object "CrowdSimulator$Field")) :: wsL_law) B.pre w (List.mem_cons_of_mem _ hw)
  have hlocks := B.notSynchronized
  have E : CallFix p m c cX6_fieldOfGoal 4 s args wsL_law RX6 := ⟨hx, hb, hml, findClass_of_methodNamed B.named, hts⟩
  have hB : sB D G (sA ad r n s.heap.size) s.heap ad r v n x s.heap [] := ⟨hP, sD_self hD, va_S.rf⟩
  have hgo : sGo r n ad r n ad := sGo.rf
  have h0 : n ≤ n := Nat.le_refl n
  have hl := lv_entry ([.ref (ad 0), .int x1, .int x2, .int x3]) (n := 4) (Nat.le_of_ble_eq_true rfl)
  refine W.eq (g2 := F0 m 0 ((lg_sl ([.ref (ad 0), .int x1, .int x2, .int x3]) ++ List.replicate (4 - (lg_sl ([.ref (ad 0), .int x1, .int x2, .int x3])).length) Slot.unset).toArray) []) (by rw [hargs]; exact lg_entry_eq _ _ _) ?_
  generalize (lg_sl ([.ref (ad 0), .int x1, .int x2, .int x3]) ++ List.replicate (4 - (lg_sl ([.ref (ad 0), .int x1, .int x2, .int x3])).length) Slot.unset).toArray = ls at hl ⊢
  have hl : lv_has ls 4 [(0, .ref (ad 0)), (1, .int x1), (2, .int x2), (3, .int x3)] := hl
  refine W_00 (n := n) ?_
  have hf := (fX6_fieldOfGoal.eq_1 ..).symm.trans hf
  refine lv_iload_n hx hb dX6_fieldOfGoal_0 rfl (lv_at hl 1 rfl) ?_
  refine sc_Tv htab hlocks hB hgo ⟨Nat.le_refl _, Nat.le_refl _⟩ hf he (fun q9 h9 hc9 => rS_T (As := [.int x1]) (rest := []) E hU hZ (fun q h => Or.inr h) hB (mX6_requireGoal l hst D G ad r _ n x hsh hn x1 _ _ h9) (cwGS 1 okX6_requireGoal wmX6_105 hts rfl rfl ⟨Nat.le_of_ble_eq_true rfl, Nat.le_of_ble_eq_true rfl⟩) rfl hl.1 (Nat.le_of_ble_eq_true rfl) dX6_fieldOfGoal_1 hc9 rfl) (fun rr1 v1 n1 rez hf he ad1 hg1 h0 H locs hB => ?_)
  have hl : lv_has ls 4 [(0, .ref (ad1 0)), (1, .int x1), (2, .int x2), (3, .int x3)] := by rw [(hg1.2 (0) (slt hsh hn 0 rfl)).2]; exact hl
  have hn : 172 ≤ n1 := Nat.le_trans hn hg1.1
  have hgo := hgo.trans hg1
  obtain ⟨hsh, hf⟩ := ck_e hf
  refine lv_iload_n hx hb dX6_fieldOfGoal_4 rfl (lv_at hl 2 rfl) ?_
  refine lv_iload_n hx hb dX6_fieldOfGoal_5 rfl (lv_at hl 3 rfl) ?_
  refine sc_Tv htab hlocks hB hgo ⟨Nat.le_refl _, Nat.le_refl _⟩ hf he (fun q9 h9 hc9 => rS_T (As := [.int x2, .int x3]) (rest := []) E hU hZ (fun q h => Or.inr h) hB (mX6_requireCell l hst D G ad1 rr1 _ n1 x hsh hn x2 x3 _ _ h9) (cwGS 2 okX6_requireCell wmX6_56 hts rfl rfl ⟨Nat.le_of_ble_eq_true rfl, Nat.le_of_ble_eq_true rfl⟩) rfl hl.1 (Nat.le_of_ble_eq_true rfl) dX6_fieldOfGoal_6 hc9 rfl) (fun rr2 v2 n2 rez hf he ad2 hg2 h0 H locs hB => ?_)
  have hl : lv_has ls 4 [(0, .ref (ad2 0)), (1, .int x1), (2, .int x2), (3, .int x3)] := by rw [(hg2.2 (0) (slt hsh hn 0 rfl)).2]; exact hl
  have hn : 172 ≤ n2 := Nat.le_trans hn hg2.1
  have hgo := hgo.trans hg2
  obtain ⟨hsh, hf⟩ := ck_e hf
  refine lv_aload_n hx hb dX6_fieldOfGoal_9 rfl (lv_at hl 0 rfl) ?_
  refine lv_iload_n hx hb dX6_fieldOfGoal_10 rfl (lv_at hl 1 rfl) ?_
  refine sc_Tv htab hlocks hB hgo ⟨Nat.le_refl _, Nat.le_refl _⟩ hf he (fun q9 h9 hc9 => rV_T (As := [.int x1]) (rest := []) E hU hZ (fun q h => Or.inr h) hB sc8 (slt hsh hn 0 rfl) rfl (mX6_requireSetGoal l hst D G ad2 rr2 _ n2 x hsh hn x1 _ _ h9) (cwGV 1 okX6_requireSetGoal wmX6_124 hts rfl rfl ⟨Nat.le_of_ble_eq_true rfl, Nat.le_of_ble_eq_true rfl⟩) rfl hl.1 (Nat.le_of_ble_eq_true rfl) dX6_fieldOfGoal_11 hc9 rfl) (fun rr3 v3 n3 rez hf he ad3 hg3 h0 H locs hB => ?_)
  have hl : lv_has ls 4 [(0, .ref (ad3 0)), (1, .int x1), (2, .int x2), (3, .int x3)] := by rw [(hg3.2 (0) (slt hsh hn 0 rfl)).2]; exact hl
  have hn : 172 ≤ n3 := Nat.le_trans hn hg3.1
  have hgo := hgo.trans hg3
  obtain ⟨hsh, hf⟩ := ck_e hf
  refine lv_aload_n hx hb dX6_fieldOfGoal_14 rfl (lv_at hl 0 rfl) ?_
  refine s_getR (k := 1) (t := 14) E hU hB.1 sc8 (slt hsh hn 0 rfl) rfl inlX6 (Nat.le_of_ble_eq_true rfl) rfl rfl wkX6_19 (hsh.1 0 1 14 rfl) dX6_fieldOfGoal_15 ?_
  refine lv_aload_n hx hb dX6_fieldOfGoal_18 rfl (lv_at hl 0 rfl) ?_
  refine s_getR (k := 0) (t := 1) E hU hB.1 sc8 (slt hsh hn 0 rfl) rfl inlX6 (Nat.le_of_ble_eq_true rfl) rfl rfl wkX6_12 (hsh.1 0 0 1 rfl) dX6_fieldOfGoal_19 ?_
  refine s_getR (k := 2) (t := 4) E hU hB.1 sc7 (slt hsh hn 1 rfl) rfl inlX5 (Nat.le_of_ble_eq_true rfl) rfl rfl wkX6_111 (hsh.1 1 2 4 rfl) dX6_fieldOfGoal_22 ?_
  refine lv_iload_n hx hb dX6_fieldOfGoal_25 rfl (lv_at hl 1 rfl) ?_
  refine s_iald E hU hB.1 (slt hsh hn 4 rfl) rfl dX6_fieldOfGoal_26 hf (fun y4 hf => ?_)
  refine lv_aload_n hx hb dX6_fieldOfGoal_27 rfl (lv_at hl 0 rfl) ?_
  refine s_getR (k := 0) (t := 1) E hU hB.1 sc8 (slt hsh hn 0 rfl) rfl inlX6 (Nat.le_of_ble_eq_true rfl) rfl rfl wkX6_12 (hsh.1 0 0 1 rfl) dX6_fieldOfGoal_28 ?_
  refine s_getR (k := 0) (t := 2) E hU hB.1 sc7 (slt hsh hn 1 rfl) rfl inlX5 (Nat.le_of_ble_eq_true rfl) rfl rfl wkX6_83 (hsh.1 1 0 2 rfl) dX6_fieldOfGoal_31 ?_
  refine sc_Ar hB (fun q h => Or.inr h) h0 ⟨Nat.le_add_right _ _, Nat.le_add_right _ _⟩ hf he (fun q9 h9 hc9 => rV_A (As := [.int y4, .ref (ad3 2)]) (rest := []) E hU hB sc4 (slt hsh hn 14 rfl) rfl (mX2_toward l K D G ad3 rr3 _ n3 x hsh hn 2 rfl (slt hsh hn 2 rfl) y4 _ _ h9) (cwGV 2 okX2_toward wmX6_114 hts rfl rfl ⟨Nat.le_of_ble_eq_true rfl, Nat.le_of_ble_eq_true rfl⟩) rfl hl.1 (Nat.le_of_ble_eq_true rfl) dX6_fieldOfGoal_34 hc9 rfl) (fun y5 rr5 v5 n5 rez hf he ad5 hg5 h0 H locs hB => ?_)
  have hl : lv_has ls 4 [(0, .ref (ad5 0)), (1, .int x1), (2, .int x2), (3, .int x3)] := by rw [(hg5.2 (0) (slt hsh hn 0 rfl)).2]; exact hl
  have hn : 172 ≤ n5 := Nat.le_trans hn hg5.1
  have hgo := hgo.trans hg5
  obtain ⟨⟨hsh, hy5⟩, hf⟩ := ck_e hf
  exact s_aretT E hrt hlocks hB hgo hf he dX6_fieldOfGoal_37
abbrev rmX6_distance (c s : Nat) : Room := { frames := 10, cells := c, slots := s, locals := 244 }
set_option maxRecDepth 100000 in
set_option maxHeartbeats 4000000 in
theorem mX6_distance (l : Launch) (K : Nat) (hst : l.stackTraces = false) (D : va_G) (G : Nat → ClassId) (ad : Nat → Nat) (r : sR) (v : sV) (n : Nat) (x : Int64 × UInt64) (hsh : sSh r) (hn : 172 ≤ n) (x1 : Int32) (x2 : Int32) (x3 : Int32) : sMT sQTi l yX6_distance (.code yX6_distance cX6_distance 4 (some .int) :: wsL_law) rmX6_distance D G ad r v n x [.ref (ad 0), .int x1, .int x2, .int x3] (fX6_distance K x1 x2 x3 r v n) := by
  intro sz0 q0 hf
  obtain ⟨fin, he⟩ : ∃ fin, fin = fz n q0 := ⟨_, rfl⟩
  rw [← he]
  refine vx_ofW (cc := cX6_distance) (maxL := 4) (ret := (some .int)) (by decide) rfl ?_
  intro p e s m args below meth c s₁ B hml htab hv
  obtain ⟨hargs, rfl, hU, hP, hD, hZ⟩ := hv
  have hx := B.exec
  have hb := B.bytes
  have hrt := B.returns
  have hts : ∀ w ∈ wsL_law, w.before args s = true := fun w hw => atoms_spec (ws := .code yX6_distance cX6_distance 4 (some .int) :: wsL_law) B.pre w (List.mem_cons_of_mem _ hw)
  have hlocks := B.notSynchronized
  have E : CallFix p m c cX6_distance 4 s args wsL_law RX6 := ⟨hx, hb, hml, findClass_of_methodNamed B.named, hts⟩
  have hB : sB D G (sA ad r n s.heap.size) s.heap ad r v n x s.heap [] := ⟨hP, sD_self hD, va_S.rf⟩
  have hgo : sGo r n ad r n ad := sGo.rf
  have h0 : n ≤ n := Nat.le_refl n
  have hl := lv_entry ([.ref (ad 0), .int x1, .int x2, .int x3]) (n := 4) (Nat.le_of_ble_eq_true rfl)
  refine W.eq (g2 := F0 m 0 ((lg_sl ([.ref (ad 0), .int x1, .int x2, .int x3]) ++ List.replicate (4 - (lg_sl ([.ref (ad 0), .int x1, .int x2, .int x3])).length) Slot.unset).toArray) []) (by rw [hargs]; exact lg_entry_eq _ _ _) ?_
  generalize (lg_sl ([.ref (ad 0), .int x1, .int x2, .int x3]) ++ List.replicate (4 - (lg_sl ([.ref (ad 0), .int x1, .int x2, .int x3])).length) Slot.unset).toArray = ls at hl ⊢
  have hl : lv_has ls 4 [(0, .ref (ad 0)), (1, .int x1), (2, .int x2), (3, .int x3)] := hl
  refine W_00 (n := n) ?_
  have hf := (fX6_distance.eq_1 ..).symm.trans hf
  refine lv_aload_n hx hb dX6_distance_0 rfl (lv_at hl 0 rfl) ?_
  refine lv_iload_n hx hb dX6_distance_1 rfl (lv_at hl 1 rfl) ?_
  refine lv_iload_n hx hb dX6_distance_2 rfl (lv_at hl 2 rfl) ?_
  refine lv_iload_n hx hb dX6_distance_3 rfl (lv_at hl 3 rfl) ?_
  refine sc_Tr htab hlocks hB hgo ⟨Nat.le_refl _, Nat.le_refl _⟩ hf he (fun q9 h9 hc9 => rV_T (As := [.int x1, .int x2, .int x3]) (rest := []) E hU hZ (fun q h => Or.inr h) hB sc8 (slt hsh hn 0 rfl) rfl (mX6_fieldOfGoal l K hst D G ad r _ n x hsh hn x1 x2 x3 _ _ h9) (cwGV 3 okX6_fieldOfGoal wmX6_133 hts rfl rfl ⟨Nat.le_of_ble_eq_true rfl, Nat.le_of_ble_eq_true rfl⟩) rfl hl.1 (Nat.le_of_ble_eq_true rfl) dX6_distance_4 hc9 rfl) (fun y1 rr1 v1 n1 rez hf he ad1 hg1 h0 H locs hB => ?_)
  have hl : lv_has ls 4 [(0, .ref (ad1 0)), (1, .int x1), (2, .int x2), (3, .int x3)] := by rw [(hg1.2 (0) (slt hsh hn 0 rfl)).2]; exact hl
  have hn : 172 ≤ n1 := Nat.le_trans hn hg1.1
  have hgo := hgo.trans hg1
  obtain ⟨⟨hsh, hy1⟩, hf⟩ := ck_e hf
  refine lv_iload_n hx hb dX6_distance_7 rfl (lv_at hl 2 rfl) ?_
  refine lv_iload_n hx hb dX6_distance_8 rfl (lv_at hl 3 rfl) ?_
  refine sc_R hf (rS_S (As := [.int x2, .int x3]) (rest := [.ref (ad1 y1)]) E (mX6_cellAt l x2 x3) (cwGS 2 okX6_cellAt wmX6_64 hts rfl rfl ⟨Nat.le_of_ble_eq_true rfl, Nat.le_of_ble_eq_true rfl⟩) rfl hl.1 (Nat.le_of_ble_eq_true rfl) dX6_distance_9 (aC he (Nat.le_add_right _ _) (Nat.le_add_right _ _)) rfl) (fun y2 hf => ?_)
  refine sc_R hf (rV_R (As := [.int y2]) (rest := []) E hU hB.1 sc3 (okF_lt hy1) (okF_k hy1) (mX1_distanceOf l D G ad1 rr1 _ n1 x hsh hn y1 hy1 y2) (cwGV 1 okX1_distanceOf wmX6_137 hts rfl rfl ⟨Nat.le_of_ble_eq_true rfl, Nat.le_of_ble_eq_true rfl⟩) rfl hl.1 (Nat.le_of_ble_eq_true rfl) dX6_distance_12 (aC he (Nat.le_add_right _ _) (Nat.le_add_right _ _)) rfl) (fun y3 hf => ?_)
  exact s_iretT E hrt hlocks hB hgo hf he dX6_distance_15
abbrev rmX6_flow (c s : Nat) : Room := { frames := 10, cells := c, slots := s, locals := 244 }
set_option maxRecDepth 100000 in
set_option maxHeartbeats 4000000 in
theorem mX6_flow (l : Launch) (K : Nat) (hst : l.stackTraces = false) (D : va_G) (G : Nat → ClassId) (ad : Nat → Nat) (r : sR) (v : sV) (n : Nat) (x : Int64 × UInt64) (hsh : sSh r) (hn : 172 ≤ n) (x1 : Int32) (x2 : Int32) (x3 : Int32) : sMT sQTi l yX6_flow (.code yX6_flow cX6_flow 4 (some .int) :: wsL_law) rmX6_flow D G ad r v n x [.ref (ad 0), .int x1, .int x2, .int x3] (fX6_flow K x1 x2 x3 r v n) := by
  intro sz0 q0 hf
  obtain ⟨fin, he⟩ : ∃ fin, fin = fz n q0 := ⟨_, rfl⟩
  rw [← he]
  refine vx_ofW (cc := cX6_flow) (maxL := 4) (ret := (some .int)) (by decide) rfl ?_
  intro p e s m args below meth c s₁ B hml htab hv
  obtain ⟨hargs, rfl, hU, hP, hD, hZ⟩ := hv
  have hx := B.exec
  have hb := B.bytes
  have hrt := B.returns
  have hts : ∀ w ∈ wsL_law, w.before args s = true := fun w hw => atoms_spec (ws := .code yX6_flow cX6_flow 4 (some .int) :: wsL_law) B.pre w (List.mem_cons_of_mem _ hw)
  have hlocks := B.notSynchronized
  have E : CallFix p m c cX6_flow 4 s args wsL_law RX6 := ⟨hx, hb, hml, findClass_of_methodNamed B.named, hts⟩
  have hB : sB D G (sA ad r n s.heap.size) s.heap ad r v n x s.heap [] := ⟨hP, sD_self hD, va_S.rf⟩
  have hgo : sGo r n ad r n ad := sGo.rf
  have h0 : n ≤ n := Nat.le_refl n
  have hl := lv_entry ([.ref (ad 0), .int x1, .int x2, .int x3]) (n := 4) (Nat.le_of_ble_eq_true rfl)
  refine W.eq (g2 := F0 m 0 ((lg_sl ([.ref (ad 0), .int x1, .int x2, .int x3]) ++ List.replicate (4 - (lg_sl ([.ref (ad 0), .int x1, .int x2, .int x3])).length) Slot.unset).toArray) []) (by rw [hargs]; exact lg_entry_eq _ _ _) ?_
  generalize (lg_sl ([.ref (ad 0), .int x1, .int x2, .int x3]) ++ List.replicate (4 - (lg_sl ([.ref (ad 0), .int x1, .int x2, .int x3])).length) Slot.unset).toArray = ls at hl ⊢
  have hl : lv_has ls 4 [(0, .ref (ad 0)), (1, .int x1), (2, .int x2), (3, .int x3)] := hl
  refine W_00 (n := n) ?_
  have hf := (fX6_flow.eq_1 ..).symm.trans hf
  refine lv_aload_n hx hb dX6_flow_0 rfl (lv_at hl 0 rfl) ?_
  refine lv_iload_n hx hb dX6_flow_1 rfl (lv_at hl 1 rfl) ?_
  refine lv_iload_n hx hb dX6_flow_2 rfl (lv_at hl 2 rfl) ?_
  refine lv_iload_n hx hb dX6_flow_3 rfl (lv_at hl 3 rfl) ?_
  refine sc_Tr htab hlocks hB hgo ⟨Nat.le_refl _, Nat.le_refl _⟩ hf he (fun q9 h9 hc9 => rV_T (As := [.int x1, .int x2, .int x3]) (rest := []) E hU hZ (fun q h => Or.inr h) hB sc8 (slt hsh hn 0 rfl) rfl (mX6_fieldOfGoal l K hst D G ad r _ n x hsh hn x1 x2 x3 _ _ h9) (cwGV 3 okX6_fieldOfGoal wmX6_133 hts rfl rfl ⟨Nat.le_of_ble_eq_true rfl, Nat.le_of_ble_eq_true rfl⟩) rfl hl.1 (Nat.le_of_ble_eq_true rfl) dX6_flow_4 hc9 rfl) (fun y1 rr1 v1 n1 rez hf he ad1 hg1 h0 H locs hB => ?_)
  have hl : lv_has ls 4 [(0, .ref (ad1 0)), (1, .int x1), (2, .int x2), (3, .int x3)] := by rw [(hg1.2 (0) (slt hsh hn 0 rfl)).2]; exact hl
  have hn : 172 ≤ n1 := Nat.le_trans hn hg1.1
  have hgo := hgo.trans hg1
  obtain ⟨⟨hsh, hy1⟩, hf⟩ := ck_e hf
  refine lv_iload_n hx hb dX6_flow_7 rfl (lv_at hl 2 rfl) ?_
  refine lv_iload_n hx hb dX6_flow_8 rfl (lv_at hl 3 rfl) ?_
  refine sc_R hf (rS_S (As := [.int x2, .int x3]) (rest := [.ref (ad1 y1)]) E (mX6_cellAt l x2 x3) (cwGS 2 okX6_cellAt wmX6_64 hts rfl rfl ⟨Nat.le_of_ble_eq_true rfl, Nat.le_of_ble_eq_true rfl⟩) rfl hl.1 (Nat.le_of_ble_eq_true rfl) dX6_flow_9 (aC he (Nat.le_add_right _ _) (Nat.le_add_right _ _)) rfl) (fun y2 hf => ?_)
  refine lv_aload_n hx hb dX6_flow_12 rfl (lv_at hl 0 rfl) ?_
  refine s_getR (k := 0) (t := 1) E hU hB.1 sc8 (slt hsh hn 0 rfl) rfl inlX6 (Nat.le_of_ble_eq_true rfl) rfl rfl wkX6_12 (hsh.1 0 0 1 rfl) dX6_flow_13 ?_
  refine s_getR (k := 0) (t := 2) E hU hB.1 sc7 (slt hsh hn 1 rfl) rfl inlX5 (Nat.le_of_ble_eq_true rfl) rfl rfl wkX6_83 (hsh.1 1 0 2 rfl) dX6_flow_16 ?_
  refine sc_R hf (rV_R (As := [.int y2, .ref (ad1 2)]) (rest := []) E hU hB.1 sc3 (okF_lt hy1) (okF_k hy1) (mX1_flowOf l K D G ad1 rr1 _ n1 x hsh hn y1 2 hy1 rfl (slt hsh hn 2 rfl) y2) (cwGV 2 okX1_flowOf wmX6_140 hts rfl rfl ⟨Nat.le_of_ble_eq_true rfl, Nat.le_of_ble_eq_true rfl⟩) rfl hl.1 (Nat.le_of_ble_eq_true rfl) dX6_flow_19 (aC he (Nat.le_add_right _ _) (Nat.le_add_right _ _)) rfl) (fun y3 hf => ?_)
  exact s_iretT E hrt hlocks hB hgo hf he dX6_flow_22
abbrev rmX6_steps (c s : Nat) : Room := { frames := 10, cells := c, slots := s, locals := 244 }
set_option maxRecDepth 100000 in
set_option maxHeartbeats 4000000 in
theorem mX6_steps (l : Launch) (K : Nat) (hst : l.stackTraces = false) (D : va_G) (G : Nat → ClassId) (ad : Nat → Nat) (r : sR) (v : sV) (n : Nat) (x : Int64 × UInt64) (hsh : sSh r) (hn : 172 ≤ n) (x1 : Int32) (x2 : Int32) (x3 : Int32) : sMT sQTi l yX6_steps (.code yX6_steps cX6_steps 4 (some .int) :: wsL_law) rmX6_steps D G ad r v n x [.ref (ad 0), .int x1, .int x2, .int x3] (fX6_steps K x1 x2 x3 r v n) := by
  intro sz0 q0 hf
  obtain ⟨fin, he⟩ : ∃ fin, fin = fz n q0 := ⟨_, rfl⟩
  rw [← he]
  refine vx_ofW (cc := cX6_steps) (maxL := 4) (ret := (some .int)) (by decide) rfl ?_
  intro p e s m args below meth c s₁ B hml htab hv
  obtain ⟨hargs, rfl, hU, hP, hD, hZ⟩ := hv
  have hx := B.exec
  have hb := B.bytes
  have hrt := B.returns
  have hts : ∀ w ∈ wsL_law, w.before args s = true := fun w hw => atoms_spec (ws := .code yX6_steps cX6_steps 4 (some .int) :: wsL_law) B.pre w (List.mem_cons_of_mem _ hw)
  have hlocks := B.notSynchronized
  have E : CallFix p m c cX6_steps 4 s args wsL_law RX6 := ⟨hx, hb, hml, findClass_of_methodNamed B.named, hts⟩
  have hB : sB D G (sA ad r n s.heap.size) s.heap ad r v n x s.heap [] := ⟨hP, sD_self hD, va_S.rf⟩
  have hgo : sGo r n ad r n ad := sGo.rf
  have h0 : n ≤ n := Nat.le_refl n
  have hl := lv_entry ([.ref (ad 0), .int x1, .int x2, .int x3]) (n := 4) (Nat.le_of_ble_eq_true rfl)
  refine W.eq (g2 := F0 m 0 ((lg_sl ([.ref (ad 0), .int x1, .int x2, .int x3]) ++ List.replicate (4 - (lg_sl ([.ref (ad 0), .int x1, .int x2, .int x3])).length) Slot.unset).toArray) []) (by rw [hargs]; exact lg_entry_eq _ _ _) ?_
  generalize (lg_sl ([.ref (ad 0), .int x1, .int x2, .int x3]) ++ List.replicate (4 - (lg_sl ([.ref (ad 0), .int x1, .int x2, .int x3])).length) Slot.unset).toArray = ls at hl ⊢
  have hl : lv_has ls 4 [(0, .ref (ad 0)), (1, .int x1), (2, .int x2), (3, .int x3)] := hl
  refine W_00 (n := n) ?_
  have hf := (fX6_steps.eq_1 ..).symm.trans hf
  refine lv_aload_n hx hb dX6_steps_0 rfl (lv_at hl 0 rfl) ?_
  refine lv_iload_n hx hb dX6_steps_1 rfl (lv_at hl 1 rfl) ?_
  refine lv_iload_n hx hb dX6_steps_2 rfl (lv_at hl 2 rfl) ?_
  refine lv_iload_n hx hb dX6_steps_3 rfl (lv_at hl 3 rfl) ?_
  refine sc_Tr htab hlocks hB hgo ⟨Nat.le_refl _, Nat.le_refl _⟩ hf he (fun q9 h9 hc9 => rV_T (As := [.int x1, .int x2, .int x3]) (rest := []) E hU hZ (fun q h => Or.inr h) hB sc8 (slt hsh hn 0 rfl) rfl (mX6_fieldOfGoal l K hst D G ad r _ n x hsh hn x1 x2 x3 _ _ h9) (cwGV 3 okX6_fieldOfGoal wmX6_133 hts rfl rfl ⟨Nat.le_of_ble_eq_true rfl, Nat.le_of_ble_eq_true rfl⟩) rfl hl.1 (Nat.le_of_ble_eq_true rfl) dX6_steps_4 hc9 rfl) (fun y1 rr1 v1 n1 rez hf he ad1 hg1 h0 H locs hB => ?_)
  have hl : lv_has ls 4 [(0, .ref (ad1 0)), (1, .int x1), (2, .int x2), (3, .int x3)] := by rw [(hg1.2 (0) (slt hsh hn 0 rfl)).2]; exact hl
  have hn : 172 ≤ n1 := Nat.le_trans hn hg1.1
  have hgo := hgo.trans hg1
  obtain ⟨⟨hsh, hy1⟩, hf⟩ := ck_e hf
  refine lv_iload_n hx hb dX6_steps_7 rfl (lv_at hl 2 rfl) ?_
  refine lv_iload_n hx hb dX6_steps_8 rfl (lv_at hl 3 rfl) ?_
  refine sc_R hf (rS_S (As := [.int x2, .int x3]) (rest := [.ref (ad1 y1)]) E (mX6_cellAt l x2 x3) (cwGS 2 okX6_cellAt wmX6_64 hts rfl rfl ⟨Nat.le_of_ble_eq_true rfl, Nat.le_of_ble_eq_true rfl⟩) rfl hl.1 (Nat.le_of_ble_eq_true rfl) dX6_steps_9 (aC he (Nat.le_add_right _ _) (Nat.le_add_right _ _)) rfl) (fun y2 hf => ?_)
  refine lv_aload_n hx hb dX6_steps_12 rfl (lv_at hl 0 rfl) ?_
  refine s_getR (k := 0) (t := 1) E hU hB.1 sc8 (slt hsh hn 0 rfl) rfl inlX6 (Nat.le_of_ble_eq_true rfl) rfl rfl wkX6_12 (hsh.1 0 0 1 rfl) dX6_steps_13 ?_
  refine s_getR (k := 0) (t := 2) E hU hB.1 sc7 (slt hsh hn 1 rfl) rfl inlX5 (Nat.le_of_ble_eq_true rfl) rfl rfl wkX6_83 (hsh.1 1 0 2 rfl) dX6_steps_16 ?_
  refine sc_R hf (rV_R (As := [.int y2, .ref (ad1 2)]) (rest := []) E hU hB.1 sc3 (okF_lt hy1) (okF_k hy1) (mX1_stepsFrom l K D G ad1 rr1 _ n1 x hsh hn y1 2 hy1 rfl (slt hsh hn 2 rfl) y2) (cwGV 2 okX1_stepsFrom wmX6_144 hts rfl rfl ⟨Nat.le_of_ble_eq_true rfl, Nat.le_of_ble_eq_true rfl⟩) rfl hl.1 (Nat.le_of_ble_eq_true rfl) dX6_steps_19 (aC he (Nat.le_add_right _ _) (Nat.le_add_right _ _)) rfl) (fun y3 hf => ?_)
  exact s_iretT E hrt hlocks hB hgo hf he dX6_steps_22
abbrev rmX6_setPatience (c s : Nat) : Room := { frames := 9, cells := c, slots := s, locals := 220 }
set_option maxRecDepth 100000 in
set_option maxHeartbeats 4000000 in
theorem wX6_setPatience_15 {K : Nat} {x1 : Int32} {t0 : Int32} {ad0 ad : Nat → Nat} {n0 n : Nat} {r0 r : sR} {v : sV} {H : Heap} {locs : List Loc} {ls : Array Slot} {fin rez : (Sum Int32 Nat × sR × sV × Nat)} (E : CallFix p m c cX6_setPatience 3 s args wsL_law RX6) (hlocks : meth.locks = false) (hrt : meth.sig.returnType = (some .int)) (hU : sU D G s) (hst : l.stackTraces = false) (hZ : sZ (sA ad0 r0 n0 s.heap.size) s) (htab : ∀ x ∈ c.exceptionTable.toList, False) (hsh : sSh r) (hn : 172 ≤ n) (hgo : sGo r0 n0 ad0 r n ad) (hf : bX6_setPatience_15 K x1 t0 r v n = some rez) (he : fin = fz n rez) (hB : sB D G (sA ad0 r0 n0 s.heap.size) s.heap ad r v n x H locs) (hl : lv_has ls 3 [(0, .ref (ad 0)), (1, .int x1)]) :
    W p l e (rmX6_setPatience (mcT n0 fin) (msT n0 fin)) s m args below meth c H locs (n - n0) (sz n - sz n0) (vx_MQ below (sQTi D G ad0 r0 n0 x s.heap.size fin) (sXC D G ad0 r0 n0 x s.heap.size fin) args s (mcT n0 fin) (msT n0 fin) (sA ad0 r0 n0 s.heap.size)) (F0 m 15 ls [.int t0]) := by
  have hx := E.1
  have hb := E.2.1
  have hts := E.2.2.2.2
  have h0 := hgo.1
  have hf := (bX6_setPatience_15.eq_1 ..).symm.trans hf
  refine sc_Tv htab hlocks hB hgo ⟨Nat.le_refl _, Nat.le_refl _⟩ hf he (fun q9 h9 hc9 => rS_T (As := [.int t0]) (rest := []) E hU hZ (fun q h => Or.inr h) hB (mX6_requireArgument l hst D G ad r _ n x hsh hn t0 _ _ h9) (cwGS 1 okX6_requireArgument wmX6_60 hts rfl rfl ⟨Nat.le_of_ble_eq_true rfl, Nat.le_of_ble_eq_true rfl⟩) rfl hl.1 (Nat.le_of_ble_eq_true rfl) dX6_setPatience_15 hc9 rfl) (fun rr1 v1 n1 rez hf he ad1 hg1 h0 H locs hB => ?_)
  have hl : lv_has ls 3 [(0, .ref (ad1 0)), (1, .int x1)] := by rw [(hg1.2 (0) (slt hsh hn 0 rfl)).2]; exact hl
  have hn : 172 ≤ n1 := Nat.le_trans hn hg1.1
  have hgo := hgo.trans hg1
  obtain ⟨hsh, hf⟩ := ck_e hf
  refine lv_aload_n hx hb dX6_setPatience_18 rfl (lv_at hl 0 rfl) ?_
  refine s_getR (k := 4) (t := 35) E hU hB.1 sc8 (slt hsh hn 0 rfl) rfl inlX6 (Nat.le_of_ble_eq_true rfl) rfl rfl wkX6_38 (hsh.1 0 4 35 rfl) dX6_setPatience_19 ?_
  refine lv_aload_n hx hb dX6_setPatience_22 rfl (lv_at hl 0 rfl) ?_
  refine s_getR (k := 0) (t := 1) E hU hB.1 sc8 (slt hsh hn 0 rfl) rfl inlX6 (Nat.le_of_ble_eq_true rfl) rfl rfl wkX6_12 (hsh.1 0 0 1 rfl) dX6_setPatience_23 ?_
  refine sc_Av hB (fun q h => Or.inr h) h0 ⟨Nat.le_add_right _ _, Nat.le_add_right _ _⟩ hf he (fun q9 h9 hc9 => rV_A (As := [.ref (ad1 1)]) (rest := []) E hU hB sc5 (slt hsh hn 35 rfl) rfl (mX3_record l K D G ad1 rr1 _ n1 x hsh hn 1 (Or.inl (by decide)) _ _ h9) (cwGV 1 okX3_record wmX6_79 hts rfl rfl ⟨Nat.le_of_ble_eq_true rfl, Nat.le_of_ble_eq_true rfl⟩) rfl hl.1 (Nat.le_of_ble_eq_true rfl) dX6_setPatience_26 hc9 rfl) (fun rr2 v2 n2 rez hf he ad2 hg2 h0 H locs hB => ?_)
  have hl : lv_has ls 3 [(0, .ref (ad2 0)), (1, .int x1)] := by rw [(hg2.2 (0) (slt hsh hn 0 rfl)).2]; exact hl
  have hn : 172 ≤ n2 := Nat.le_trans hn hg2.1
  have hgo := hgo.trans hg2
  obtain ⟨hsh, hf⟩ := ck_e hf
  refine lv_aload_n hx hb dX6_setPatience_29 rfl (lv_at hl 0 rfl) ?_
  refine s_getR (k := 0) (t := 1) E hU hB.1 sc8 (slt hsh hn 0 rfl) rfl inlX6 (Nat.le_of_ble_eq_true rfl) rfl rfl wkX6_12 (hsh.1 0 0 1 rfl) dX6_setPatience_30 ?_
  refine s_getI (k := 12) E hU hB.1 sc7 (slt hsh hn 1 rfl) rfl inlX5 (Nat.le_of_ble_eq_true rfl) rfl rfl wkX6_147 dX6_setPatience_33 ?_
  refine s_nm hf (fun z3 hf => ?_)
  refine lv_istore_n (lv' := [(2, .int z3), (0, .ref (ad2 0)), (1, .int x1)]) hx hb dX6_setPatience_36 rfl hl (Nat.le_of_ble_eq_true rfl) rfl (fun ls hl => ?_)
  refine lv_aload_n hx hb dX6_setPatience_37 rfl (lv_at hl 1 rfl) ?_
  refine s_getR (k := 0) (t := 1) E hU hB.1 sc8 (slt hsh hn 0 rfl) rfl inlX6 (Nat.le_of_ble_eq_true rfl) rfl rfl wkX6_12 (hsh.1 0 0 1 rfl) dX6_setPatience_38 ?_
  refine lv_iload_n hx hb dX6_setPatience_41 rfl (lv_at hl 2 rfl) ?_
  refine s_putI (k := 12) (ty1 := .int) E hU hB sc7 (slt hsh hn 1 rfl) rfl inlX5 (Nat.le_of_ble_eq_true rfl) rfl rfl wkX6_147 rfl rfl rfl rfl dX6_setPatience_42 hf (fun v4 hf H locs hB => ?_)
  refine lv_iload_n hx hb dX6_setPatience_45 rfl (lv_at hl 0 rfl) ?_
  exact s_iretT E hrt hlocks hB hgo hf he dX6_setPatience_46
set_option maxRecDepth 100000 in
set_option maxHeartbeats 4000000 in
theorem mX6_setPatience (l : Launch) (K : Nat) (hst : l.stackTraces = false) (D : va_G) (G : Nat → ClassId) (ad : Nat → Nat) (r : sR) (v : sV) (n : Nat) (x : Int64 × UInt64) (hsh : sSh r) (hn : 172 ≤ n) (x1 : Int32) : sMT sQTi l yX6_setPatience (.code yX6_setPatience cX6_setPatience 3 (some .int) :: wsL_law) rmX6_setPatience D G ad r v n x [.ref (ad 0), .int x1] (fX6_setPatience K x1 r v n) := by
  intro sz0 q0 hf
  obtain ⟨fin, he⟩ : ∃ fin, fin = fz n q0 := ⟨_, rfl⟩
  rw [← he]
  refine vx_ofW (cc := cX6_setPatience) (maxL := 3) (ret := (some .int)) (by decide) rfl ?_
  intro p e s m args below meth c s₁ B hml htab hv
  obtain ⟨hargs, rfl, hU, hP, hD, hZ⟩ := hv
  have hx := B.exec
  have hb := B.bytes
  have hrt := B.returns
  have hts : ∀ w ∈ wsL_law, w.before args s = true := fun w hw => atoms_spec (ws := .code yX6_setPatience cX6_setPatience 3 (some .int) :: wsL_law) B.pre w (List.mem_cons_of_mem _ hw)
  have hlocks := B.notSynchronized
  have E : CallFix p m c cX6_setPatience 3 s args wsL_law RX6 := ⟨hx, hb, hml, findClass_of_methodNamed B.named, hts⟩
  have hB : sB D G (sA ad r n s.heap.size) s.heap ad r v n x s.heap [] := ⟨hP, sD_self hD, va_S.rf⟩
  have hgo : sGo r n ad r n ad := sGo.rf
  have h0 : n ≤ n := Nat.le_refl n
  have hl := lv_entry ([.ref (ad 0), .int x1]) (n := 3) (Nat.le_of_ble_eq_true rfl)
  refine W.eq (g2 := F0 m 0 ((lg_sl ([.ref (ad 0), .int x1]) ++ List.replicate (3 - (lg_sl ([.ref (ad 0), .int x1])).length) Slot.unset).toArray) []) (by rw [hargs]; exact lg_entry_eq _ _ _) ?_
  generalize (lg_sl ([.ref (ad 0), .int x1]) ++ List.replicate (3 - (lg_sl ([.ref (ad 0), .int x1])).length) Slot.unset).toArray = ls at hl ⊢
  have hl : lv_has ls 3 [(0, .ref (ad 0)), (1, .int x1)] := hl
  refine W_00 (n := n) ?_
  have hf := (fX6_setPatience.eq_1 ..).symm.trans hf
  refine lv_iload_n hx hb dX6_setPatience_0 rfl (lv_at hl 1 rfl) ?_
  refine lv_if_lt (tgt := 14) hx hb dX6_setPatience_1 rfl (fun hc => ?_) (fun hc => ?_)
  · have hf := ite_t hf hc
    refine lv_iconst (v := 0) hx hb dX6_setPatience_14 rfl ?_
    exact wX6_setPatience_15 E hlocks hrt hU hst hZ htab hsh hn hgo hf he hB (lv_sub hl [0, 1] rfl)
  · have hf := ite_f hf hc
    refine lv_iload_n hx hb dX6_setPatience_4 rfl (lv_at hl 1 rfl) ?_
    refine lv_bipush (v := 9) hx hb dX6_setPatience_5 rfl ?_
    refine lv_icmp_gt (tgt := 14) hx hb dX6_setPatience_7 rfl (fun hc => ?_) (fun hc => ?_)
    · have hf := ite_t hf hc
      refine lv_iconst (v := 0) hx hb dX6_setPatience_14 rfl ?_
      exact wX6_setPatience_15 E hlocks hrt hU hst hZ htab hsh hn hgo hf he hB (lv_sub hl [0, 1] rfl)
    · have hf := ite_f hf hc
      refine lv_iconst (v := 1) hx hb dX6_setPatience_10 rfl ?_
      refine lv_goto (tgt := 15) hx hb dX6_setPatience_11 rfl ?_
      exact wX6_setPatience_15 E hlocks hrt hU hst hZ htab hsh hn hgo hf he hB (lv_sub hl [0, 1] rfl)
abbrev rmX6_add (c s : Nat) : Room := { frames := 9, cells := c, slots := s, locals := 221 }
set_option maxRecDepth 100000 in
set_option maxHeartbeats 4000000 in
theorem wX6_add_25 {K : Nat} {x1 : Int32} {x2 : Int32} {x3 : Int32} {x4 : Int32} {t0 : Int32} {ad0 ad : Nat → Nat} {n0 n : Nat} {r0 r : sR} {v : sV} {H : Heap} {locs : List Loc} {ls : Array Slot} {fin rez : (Sum Int32 Nat × sR × sV × Nat)} (E : CallFix p m c cX6_add 7 s args wsL_law RX6) (hlocks : meth.locks = false) (hrt : meth.sig.returnType = (some .int)) (hU : sU D G s) (hst : l.stackTraces = false) (hZ : sZ (sA ad0 r0 n0 s.heap.size) s) (htab : ∀ x ∈ c.exceptionTable.toList, False) (hsh : sSh r) (hn : 172 ≤ n) (hgo : sGo r0 n0 ad0 r n ad) (hf : bX6_add_25 K x1 x2 x3 x4 t0 r v n = some rez) (he : fin = fz n rez) (hB : sB D G (sA ad0 r0 n0 s.heap.size) s.heap ad r v n x H locs) (hl : lv_has ls 7 [(0, .ref (ad 0)), (1, .int x1), (2, .int x2), (3, .int x3), (4, .int x4)]) :
    W p l e (rmX6_add (mcT n0 fin) (msT n0 fin)) s m args below meth c H locs (n - n0) (sz n - sz n0) (vx_MQ below (sQTi D G ad0 r0 n0 x s.heap.size fin) (sXC D G ad0 r0 n0 x s.heap.size fin) args s (mcT n0 fin) (msT n0 fin) (sA ad0 r0 n0 s.heap.size)) (F0 m 25 ls [.int t0]) := by
  have hx := E.1
  have hb := E.2.1
  have hts := E.2.2.2.2
  have h0 := hgo.1
  have hf := (bX6_add_25.eq_1 ..).symm.trans hf
  refine sc_Tv htab hlocks hB hgo ⟨Nat.le_refl _, Nat.le_refl _⟩ hf he (fun q9 h9 hc9 => rS_T (As := [.int t0]) (rest := []) E hU hZ (fun q h => Or.inr h) hB (mX6_requireArgument l hst D G ad r _ n x hsh hn t0 _ _ h9) (cwGS 1 okX6_requireArgument wmX6_60 hts rfl rfl ⟨Nat.le_of_ble_eq_true rfl, Nat.le_of_ble_eq_true rfl⟩) rfl hl.1 (Nat.le_of_ble_eq_true rfl) dX6_add_25 hc9 rfl) (fun rr3 v3 n3 rez hf he ad3 hg3 h0 H locs hB => ?_)
  have hl : lv_has ls 7 [(0, .ref (ad3 0)), (1, .int x1), (2, .int x2), (3, .int x3), (4, .int x4)] := by rw [(hg3.2 (0) (slt hsh hn 0 rfl)).2]; exact hl
  have hn : 172 ≤ n3 := Nat.le_trans hn hg3.1
  have hgo := hgo.trans hg3
  obtain ⟨hsh, hf⟩ := ck_e hf
  refine lv_iload_n hx hb dX6_add_28 rfl (lv_at hl 1 rfl) ?_
  refine lv_iload_n hx hb dX6_add_29 rfl (lv_at hl 2 rfl) ?_
  refine sc_R hf (rS_S (As := [.int x1, .int x2]) (rest := []) E (mX6_cellAt l x1 x2) (cwGS 2 okX6_cellAt wmX6_64 hts rfl rfl ⟨Nat.le_of_ble_eq_true rfl, Nat.le_of_ble_eq_true rfl⟩) rfl hl.1 (Nat.le_of_ble_eq_true rfl) dX6_add_30 (aC he (Nat.le_add_right _ _) (Nat.le_add_right _ _)) rfl) (fun y4 hf => ?_)
  refine lv_istore (lv' := [(5, .int y4), (0, .ref (ad3 0)), (1, .int x1), (2, .int x2), (3, .int x3), (4, .int x4)]) hx hb dX6_add_33 hl (Nat.le_of_ble_eq_true rfl) rfl (fun ls hl => ?_)
  refine lv_aload_n hx hb dX6_add_35 rfl (lv_at hl 1 rfl) ?_
  refine s_getR (k := 2) (t := 20) E hU hB.1 sc8 (slt hsh hn 0 rfl) rfl inlX6 (Nat.le_of_ble_eq_true rfl) rfl rfl wkX6_28 (hsh.1 0 2 20 rfl) dX6_add_36 ?_
  refine lv_iload hx hb dX6_add_39 (lv_at hl 0 rfl) ?_
  refine sc_R hf (rV_R (As := [.int y4]) (rest := []) E hU hB.1 sc2 (slt hsh hn 20 rfl) rfl (mX0_isFree l K D G ad3 rr3 _ n3 x hsh hn 20 1 (Or.inl ⟨rfl, rfl⟩) y4) (cwGV 1 okX0_isFree wmX6_157 hts rfl rfl ⟨Nat.le_of_ble_eq_true rfl, Nat.le_of_ble_eq_true rfl⟩) rfl hl.1 (Nat.le_of_ble_eq_true rfl) dX6_add_41 (aC he (Nat.le_add_right _ _) (Nat.le_add_right _ _)) rfl) (fun y5 hf => ?_)
  refine lv_if_ne (tgt := 57) hx hb dX6_add_44 rfl (fun hc => ?_) (fun hc => ?_)
  · have hf := ite_f hf hc
    refine lv_aload_n hx hb dX6_add_57 rfl (lv_at hl 1 rfl) ?_
    refine s_getR (k := 2) (t := 20) E hU hB.1 sc8 (slt hsh hn 0 rfl) rfl inlX6 (Nat.le_of_ble_eq_true rfl) rfl rfl wkX6_28 (hsh.1 0 2 20 rfl) dX6_add_58 ?_
    refine sc_R hf (rV_R (As := []) (rest := []) E hU hB.1 sc2 (slt hsh hn 20 rfl) rfl (mX0_lowestUnused l K D G ad3 rr3 _ n3 x hsh hn 20 1 (Or.inl ⟨rfl, rfl⟩)) (cwGV 0 okX0_lowestUnused wmX6_162 hts rfl rfl ⟨Nat.le_of_ble_eq_true rfl, Nat.le_of_ble_eq_true rfl⟩) rfl hl.1 (Nat.le_of_ble_eq_true rfl) dX6_add_61 (aC he (Nat.le_add_right _ _) (Nat.le_add_right _ _)) rfl) (fun y6 hf => ?_)
    refine lv_istore (lv' := [(6, .int y6), (5, .int y4), (0, .ref (ad3 0)), (1, .int x1), (2, .int x2), (3, .int x3), (4, .int x4)]) hx hb dX6_add_64 hl (Nat.le_of_ble_eq_true rfl) rfl (fun ls hl => ?_)
    refine lv_iload hx hb dX6_add_66 (lv_at hl 0 rfl) ?_
    refine lv_iconst (v := (-1)) hx hb dX6_add_68 rfl ?_
    refine lv_icmp_ne (tgt := 82) hx hb dX6_add_69 rfl (fun hc => ?_) (fun hc => ?_)
    · have hf := ite_f hf hc
      refine lv_aload_n hx hb dX6_add_82 rfl (lv_at hl 2 rfl) ?_
      refine s_getR (k := 4) (t := 35) E hU hB.1 sc8 (slt hsh hn 0 rfl) rfl inlX6 (Nat.le_of_ble_eq_true rfl) rfl rfl wkX6_38 (hsh.1 0 4 35 rfl) dX6_add_83 ?_
      refine lv_aload_n hx hb dX6_add_86 rfl (lv_at hl 2 rfl) ?_
      refine s_getR (k := 0) (t := 1) E hU hB.1 sc8 (slt hsh hn 0 rfl) rfl inlX6 (Nat.le_of_ble_eq_true rfl) rfl rfl wkX6_12 (hsh.1 0 0 1 rfl) dX6_add_87 ?_
      refine sc_Av hB (fun q h => Or.inr h) h0 ⟨Nat.le_add_right _ _, Nat.le_add_right _ _⟩ hf he (fun q9 h9 hc9 => rV_A (As := [.ref (ad3 1)]) (rest := []) E hU hB sc5 (slt hsh hn 35 rfl) rfl (mX3_record l K D G ad3 rr3 _ n3 x hsh hn 1 (Or.inl (by decide)) _ _ h9) (cwGV 1 okX3_record wmX6_79 hts rfl rfl ⟨Nat.le_of_ble_eq_true rfl, Nat.le_of_ble_eq_true rfl⟩) rfl hl.1 (Nat.le_of_ble_eq_true rfl) dX6_add_90 hc9 rfl) (fun rr7 v7 n7 rez hf he ad7 hg7 h0 H locs hB => ?_)
      have hl : lv_has ls 7 [(6, .int y6), (5, .int y4), (0, .ref (ad7 0)), (1, .int x1), (2, .int x2), (3, .int x3), (4, .int x4)] := by rw [(hg7.2 (0) (slt hsh hn 0 rfl)).2]; exact hl
      have hn : 172 ≤ n7 := Nat.le_trans hn hg7.1
      have hgo := hgo.trans hg7
      obtain ⟨hsh, hf⟩ := ck_e hf
      refine lv_aload_n hx hb dX6_add_93 rfl (lv_at hl 2 rfl) ?_
      refine s_getR (k := 0) (t := 1) E hU hB.1 sc8 (slt hsh hn 0 rfl) rfl inlX6 (Nat.le_of_ble_eq_true rfl) rfl rfl wkX6_12 (hsh.1 0 0 1 rfl) dX6_add_94 ?_
      refine lv_iload hx hb dX6_add_97 (lv_at hl 0 rfl) ?_
      refine lv_iload hx hb dX6_add_99 (lv_at hl 1 rfl) ?_
      refine lv_iload_n hx hb dX6_add_101 rfl (lv_at hl 5 rfl) ?_
      refine lv_iload hx hb dX6_add_102 (lv_at hl 6 rfl) ?_
      refine sc_V hB (fun q h => Or.inr h) hf (fun q9 h9 => rV_W (As := [.int y6, .int y4, .int x3, .int x4]) (rest := []) E hU hB sc7 (slt hsh hn 1 rfl) rfl ((mX5_place l D G ad7 rr7 _ n7 x hsh hn 1 (Or.inl (by decide)) y6 y4 x3 x4) _ _ h9) (cwGV 4 okX5_place wmX6_167 hts rfl rfl ⟨Nat.le_of_ble_eq_true rfl, Nat.le_of_ble_eq_true rfl⟩) rfl hl.1 (Nat.le_of_ble_eq_true rfl) dX6_add_104 (aC he (Nat.le_add_right _ _) (Nat.le_add_right _ _)) rfl) (fun v8 hf H locs hB => ?_)
      refine lv_iload hx hb dX6_add_107 (lv_at hl 0 rfl) ?_
      exact s_iretT E hrt hlocks hB hgo hf he dX6_add_109
    · have hf := ite_t hf hc
      exact s_thr E hU hst hZ htab hlocks hB hgo hl.1 sxk3 (List.mem_of_getElem? (i := 4) rfl) dX6_add_72 dX6_add_75 dX6_add_76 dX6_add_78 dX6_add_81 (Nat.le_of_ble_eq_true rfl) (Nat.le_of_ble_eq_true rfl) ⟨Nat.le_refl _, Nat.le_refl _⟩ hf he
  · have hf := ite_t hf hc
    exact s_thr E hU hst hZ htab hlocks hB hgo hl.1 sxk3 (List.mem_of_getElem? (i := 3) rfl) dX6_add_47 dX6_add_50 dX6_add_51 dX6_add_53 dX6_add_56 (Nat.le_of_ble_eq_true rfl) (Nat.le_of_ble_eq_true rfl) ⟨Nat.le_refl _, Nat.le_refl _⟩ hf he
set_option maxRecDepth 100000 in
set_option maxHeartbeats 4000000 in
theorem mX6_add (l : Launch) (K : Nat) (hst : l.stackTraces = false) (D : va_G) (G : Nat → ClassId) (ad : Nat → Nat) (r : sR) (v : sV) (n : Nat) (x : Int64 × UInt64) (hsh : sSh r) (hn : 172 ≤ n) (x1 : Int32) (x2 : Int32) (x3 : Int32) (x4 : Int32) : sMT sQTi l yX6_add (.code yX6_add cX6_add 7 (some .int) :: wsL_law) rmX6_add D G ad r v n x [.ref (ad 0), .int x1, .int x2, .int x3, .int x4] (fX6_add K x1 x2 x3 x4 r v n) := by
  intro sz0 q0 hf
  obtain ⟨fin, he⟩ : ∃ fin, fin = fz n q0 := ⟨_, rfl⟩
  rw [← he]
  refine vx_ofW (cc := cX6_add) (maxL := 7) (ret := (some .int)) (by decide) rfl ?_
  intro p e s m args below meth c s₁ B hml htab hv
  obtain ⟨hargs, rfl, hU, hP, hD, hZ⟩ := hv
  have hx := B.exec
  have hb := B.bytes
  have hrt := B.returns
  have hts : ∀ w ∈ wsL_law, w.before args s = true := fun w hw => atoms_spec (ws := .code yX6_add cX6_add 7 (some .int) :: wsL_law) B.pre w (List.mem_cons_of_mem _ hw)
  have hlocks := B.notSynchronized
  have E : CallFix p m c cX6_add 7 s args wsL_law RX6 := ⟨hx, hb, hml, findClass_of_methodNamed B.named, hts⟩
  have hB : sB D G (sA ad r n s.heap.size) s.heap ad r v n x s.heap [] := ⟨hP, sD_self hD, va_S.rf⟩
  have hgo : sGo r n ad r n ad := sGo.rf
  have h0 : n ≤ n := Nat.le_refl n
  have hl := lv_entry ([.ref (ad 0), .int x1, .int x2, .int x3, .int x4]) (n := 7) (Nat.le_of_ble_eq_true rfl)
  refine W.eq (g2 := F0 m 0 ((lg_sl ([.ref (ad 0), .int x1, .int x2, .int x3, .int x4]) ++ List.replicate (7 - (lg_sl ([.ref (ad 0), .int x1, .int x2, .int x3, .int x4])).length) Slot.unset).toArray) []) (by rw [hargs]; exact lg_entry_eq _ _ _) ?_
  generalize (lg_sl ([.ref (ad 0), .int x1, .int x2, .int x3, .int x4]) ++ List.replicate (7 - (lg_sl ([.ref (ad 0), .int x1, .int x2, .int x3, .int x4])).length) Slot.unset).toArray = ls at hl ⊢
  have hl : lv_has ls 7 [(0, .ref (ad 0)), (1, .int x1), (2, .int x2), (3, .int x3), (4, .int x4)] := hl
  refine W_00 (n := n) ?_
  have hf := (fX6_add.eq_1 ..).symm.trans hf
  refine lv_iload_n hx hb dX6_add_0 rfl (lv_at hl 1 rfl) ?_
  refine lv_iload_n hx hb dX6_add_1 rfl (lv_at hl 2 rfl) ?_
  refine sc_Tv htab hlocks hB hgo ⟨Nat.le_refl _, Nat.le_refl _⟩ hf he (fun q9 h9 hc9 => rS_T (As := [.int x1, .int x2]) (rest := []) E hU hZ (fun q h => Or.inr h) hB (mX6_requireCell l hst D G ad r _ n x hsh hn x1 x2 _ _ h9) (cwGS 2 okX6_requireCell wmX6_56 hts rfl rfl ⟨Nat.le_of_ble_eq_true rfl, Nat.le_of_ble_eq_true rfl⟩) rfl hl.1 (Nat.le_of_ble_eq_true rfl) dX6_add_2 hc9 rfl) (fun rr1 v1 n1 rez hf he ad1 hg1 h0 H locs hB => ?_)
  have hl : lv_has ls 7 [(0, .ref (ad1 0)), (1, .int x1), (2, .int x2), (3, .int x3), (4, .int x4)] := by rw [(hg1.2 (0) (slt hsh hn 0 rfl)).2]; exact hl
  have hn : 172 ≤ n1 := Nat.le_trans hn hg1.1
  have hgo := hgo.trans hg1
  obtain ⟨hsh, hf⟩ := ck_e hf
  refine lv_iload_n hx hb dX6_add_5 rfl (lv_at hl 3 rfl) ?_
  refine sc_R hf (rS_S (As := [.int x3]) (rest := []) E (mX6_isGoalOrNone l x3) (cwGS 1 okX6_isGoalOrNone wmX6_151 hts rfl rfl ⟨Nat.le_of_ble_eq_true rfl, Nat.le_of_ble_eq_true rfl⟩) rfl hl.1 (Nat.le_of_ble_eq_true rfl) dX6_add_6 (aC he (Nat.le_add_right _ _) (Nat.le_add_right _ _)) rfl) (fun y2 hf => ?_)
  refine lv_if_eq (tgt := 24) hx hb dX6_add_9 rfl (fun hc => ?_) (fun hc => ?_)
  · have hf := ite_t hf hc
    refine lv_iconst (v := 0) hx hb dX6_add_24 rfl ?_
    exact wX6_add_25 E hlocks hrt hU hst hZ htab hsh hn hgo hf he hB (lv_sub hl [0, 1, 2, 3, 4] rfl)
  · have hf := ite_f hf hc
    refine lv_iload hx hb dX6_add_12 (lv_at hl 4 rfl) ?_
    refine sc_R hf (rS_S (As := [.int x4]) (rest := []) E (mX6_isPriority l x4) (cwGS 1 okX6_isPriority wmX6_154 hts rfl rfl ⟨Nat.le_of_ble_eq_true rfl, Nat.le_of_ble_eq_true rfl⟩) rfl hl.1 (Nat.le_of_ble_eq_true rfl) dX6_add_14 (aC he (Nat.le_add_right _ _) (Nat.le_add_right _ _)) rfl) (fun y9 hf => ?_)
    refine lv_if_eq (tgt := 24) hx hb dX6_add_17 rfl (fun hc => ?_) (fun hc => ?_)
    · have hf := ite_t hf hc
      refine lv_iconst (v := 0) hx hb dX6_add_24 rfl ?_
      exact wX6_add_25 E hlocks hrt hU hst hZ htab hsh hn hgo hf he hB (lv_sub hl [0, 1, 2, 3, 4] rfl)
    · have hf := ite_f hf hc
      refine lv_iconst (v := 1) hx hb dX6_add_20 rfl ?_
      refine lv_goto (tgt := 25) hx hb dX6_add_21 rfl ?_
      exact wX6_add_25 E hlocks hrt hU hst hZ htab hsh hn hgo hf he hB (lv_sub hl [0, 1, 2, 3, 4] rfl)
abbrev rmX6_requireAgent (c s : Nat) : Room := { frames := 8, cells := c, slots := s, locals := 200 }
set_option maxRecDepth 100000 in
set_option maxHeartbeats 4000000 in
theorem mX6_requireAgent (l : Launch) (hst : l.stackTraces = false) (D : va_G) (G : Nat → ClassId) (ad : Nat → Nat) (r : sR) (v : sV) (n : Nat) (x : Int64 × UInt64) (hsh : sSh r) (hn : 172 ≤ n) (x1 : Int32) : sMT sQTv l yX6_requireAgent (.code yX6_requireAgent cX6_requireAgent 2 none :: wsL_law) rmX6_requireAgent D G ad r v n x [.ref (ad 0), .int x1] (fX6_requireAgent x1 r v n) := by
  intro sz0 q0 hf
  obtain ⟨fin, he⟩ : ∃ fin, fin = fz n q0 := ⟨_, rfl⟩
  rw [← he]
  refine vx_ofW (cc := cX6_requireAgent) (maxL := 2) (ret := none) (by decide) rfl ?_
  intro p e s m args below meth c s₁ B hml htab hv
  obtain ⟨hargs, rfl, hU, hP, hD, hZ⟩ := hv
  have hx := B.exec
  have hb := B.bytes
  have hrt := B.returns
  have hts : ∀ w ∈ wsL_law, w.before args s = true := fun w hw => atoms_spec (ws := .code yX6_requireAgent cX6_requireAgent 2 none :: wsL_law) B.pre w (List.mem_cons_of_mem _ hw)
  have hlocks := B.notSynchronized
  have E : CallFix p m c cX6_requireAgent 2 s args wsL_law RX6 := ⟨hx, hb, hml, findClass_of_methodNamed B.named, hts⟩
  have hB : sB D G (sA ad r n s.heap.size) s.heap ad r v n x s.heap [] := ⟨hP, sD_self hD, va_S.rf⟩
  have hgo : sGo r n ad r n ad := sGo.rf
  have h0 : n ≤ n := Nat.le_refl n
  have hl := lv_entry ([.ref (ad 0), .int x1]) (n := 2) (Nat.le_of_ble_eq_true rfl)
  refine W.eq (g2 := F0 m 0 ((lg_sl ([.ref (ad 0), .int x1]) ++ List.replicate (2 - (lg_sl ([.ref (ad 0), .int x1])).length) Slot.unset).toArray) []) (by rw [hargs]; exact lg_entry_eq _ _ _) ?_
  generalize (lg_sl ([.ref (ad 0), .int x1]) ++ List.replicate (2 - (lg_sl ([.ref (ad 0), .int x1])).length) Slot.unset).toArray = ls at hl ⊢
  have hl : lv_has ls 2 [(0, .ref (ad 0)), (1, .int x1)] := hl
  refine W_00 (n := n) ?_
  have hf := (fX6_requireAgent.eq_1 ..).symm.trans hf
  refine lv_aload_n hx hb dX6_requireAgent_0 rfl (lv_at hl 0 rfl) ?_
  refine s_getR (k := 2) (t := 20) E hU hB.1 sc8 (slt hsh hn 0 rfl) rfl inlX6 (Nat.le_of_ble_eq_true rfl) rfl rfl wkX6_28 (hsh.1 0 2 20 rfl) dX6_requireAgent_1 ?_
  refine lv_iload_n hx hb dX6_requireAgent_4 rfl (lv_at hl 1 rfl) ?_
  refine sc_R hf (rV_R (As := [.int x1]) (rest := []) E hU hB.1 sc2 (slt hsh hn 20 rfl) rfl (mX0_exists l D G ad r _ n x hsh hn 20 1 (Or.inl ⟨rfl, rfl⟩) x1) (cwGV 1 okX0_exists wmX6_127 hts rfl rfl ⟨Nat.le_of_ble_eq_true rfl, Nat.le_of_ble_eq_true rfl⟩) rfl hl.1 (Nat.le_of_ble_eq_true rfl) dX6_requireAgent_5 (aC he (Nat.le_add_right _ _) (Nat.le_add_right _ _)) rfl) (fun y1 hf => ?_)
  refine lv_if_ne (tgt := 22) hx hb dX6_requireAgent_8 rfl (fun hc => ?_) (fun hc => ?_)
  · have hf := ite_f hf hc
    exact s_vretT E hrt hlocks hB hgo hf he dX6_requireAgent_22
  · have hf := ite_t hf hc
    exact s_thrW E hU hst hZ htab hlocks hB hgo hl.1 sxk1 (List.mem_of_getElem? (i := 24) rfl) dX6_requireAgent_11 dX6_requireAgent_14 dX6_requireAgent_15 dX6_requireAgent_18 dX6_requireAgent_21 (Nat.le_of_ble_eq_true rfl) (Nat.le_of_ble_eq_true rfl) ⟨Nat.le_refl _, Nat.le_refl _⟩ hf he
abbrev rmX6_remove (c s : Nat) : Room := { frames := 9, cells := c, slots := s, locals := 221 }
set_option maxRecDepth 100000 in
set_option maxHeartbeats 4000000 in
theorem mX6_remove (l : Launch) (K : Nat) (hst : l.stackTraces = false) (D : va_G) (G : Nat → ClassId) (ad : Nat → Nat) (r : sR) (v : sV) (n : Nat) (x : Int64 × UInt64) (hsh : sSh r) (hn : 172 ≤ n) (x1 : Int32) : sMT sQTi l yX6_remove (.code yX6_remove cX6_remove 2 (some .int) :: wsL_law) rmX6_remove D G ad r v n x [.ref (ad 0), .int x1] (fX6_remove K x1 r v n) := by
  intro sz0 q0 hf
  obtain ⟨fin, he⟩ : ∃ fin, fin = fz n q0 := ⟨_, rfl⟩
  rw [← he]
  refine vx_ofW (cc := cX6_remove) (maxL := 2) (ret := (some .int)) (by decide) rfl ?_
  intro p e s m args below meth c s₁ B hml htab hv
  obtain ⟨hargs, rfl, hU, hP, hD, hZ⟩ := hv
  have hx := B.exec
  have hb := B.bytes
  have hrt := B.returns
  have hts : ∀ w ∈ wsL_law, w.before args s = true := fun w hw => atoms_spec (ws := .code yX6_remove cX6_remove 2 (some .int) :: wsL_law) B.pre w (List.mem_cons_of_mem _ hw)
  have hlocks := B.notSynchronized
  have E : CallFix p m c cX6_remove 2 s args wsL_law RX6 := ⟨hx, hb, hml, findClass_of_methodNamed B.named, hts⟩
  have hB : sB D G (sA ad r n s.heap.size) s.heap ad r v n x s.heap [] := ⟨hP, sD_self hD, va_S.rf⟩
  have hgo : sGo r n ad r n ad := sGo.rf
  have h0 : n ≤ n := Nat.le_refl n
  have hl := lv_entry ([.ref (ad 0), .int x1]) (n := 2) (Nat.le_of_ble_eq_true rfl)
  refine W.eq (g2 := F0 m 0 ((lg_sl ([.ref (ad 0), .int x1]) ++ List.replicate (2 - (lg_sl ([.ref (ad 0), .int x1])).length) Slot.unset).toArray) []) (by rw [hargs]; exact lg_entry_eq _ _ _) ?_
  generalize (lg_sl ([.ref (ad 0), .int x1]) ++ List.replicate (2 - (lg_sl ([.ref (ad 0), .int x1])).length) Slot.unset).toArray = ls at hl ⊢
  have hl : lv_has ls 2 [(0, .ref (ad 0)), (1, .int x1)] := hl
  refine W_00 (n := n) ?_
  have hf := (fX6_remove.eq_1 ..).symm.trans hf
  refine lv_aload_n hx hb dX6_remove_0 rfl (lv_at hl 0 rfl) ?_
  refine lv_iload_n hx hb dX6_remove_1 rfl (lv_at hl 1 rfl) ?_
  refine sc_Tv htab hlocks hB hgo ⟨Nat.le_refl _, Nat.le_refl _⟩ hf he (fun q9 h9 hc9 => rV_T (As := [.int x1]) (rest := []) E hU hZ (fun q h => Or.inr h) hB sc8 (slt hsh hn 0 rfl) rfl (mX6_requireAgent l hst D G ad r _ n x hsh hn x1 _ _ h9) (cwGV 1 okX6_requireAgent wmX6_171 hts rfl rfl ⟨Nat.le_of_ble_eq_true rfl, Nat.le_of_ble_eq_true rfl⟩) rfl hl.1 (Nat.le_of_ble_eq_true rfl) dX6_remove_2 hc9 rfl) (fun rr1 v1 n1 rez hf he ad1 hg1 h0 H locs hB => ?_)
  have hl : lv_has ls 2 [(0, .ref (ad1 0)), (1, .int x1)] := by rw [(hg1.2 (0) (slt hsh hn 0 rfl)).2]; exact hl
  have hn : 172 ≤ n1 := Nat.le_trans hn hg1.1
  have hgo := hgo.trans hg1
  obtain ⟨hsh, hf⟩ := ck_e hf
  refine lv_aload_n hx hb dX6_remove_5 rfl (lv_at hl 0 rfl) ?_
  refine s_getR (k := 4) (t := 35) E hU hB.1 sc8 (slt hsh hn 0 rfl) rfl inlX6 (Nat.le_of_ble_eq_true rfl) rfl rfl wkX6_38 (hsh.1 0 4 35 rfl) dX6_remove_6 ?_
  refine lv_aload_n hx hb dX6_remove_9 rfl (lv_at hl 0 rfl) ?_
  refine s_getR (k := 0) (t := 1) E hU hB.1 sc8 (slt hsh hn 0 rfl) rfl inlX6 (Nat.le_of_ble_eq_true rfl) rfl rfl wkX6_12 (hsh.1 0 0 1 rfl) dX6_remove_10 ?_
  refine sc_Av hB (fun q h => Or.inr h) h0 ⟨Nat.le_add_right _ _, Nat.le_add_right _ _⟩ hf he (fun q9 h9 hc9 => rV_A (As := [.ref (ad1 1)]) (rest := []) E hU hB sc5 (slt hsh hn 35 rfl) rfl (mX3_record l K D G ad1 rr1 _ n1 x hsh hn 1 (Or.inl (by decide)) _ _ h9) (cwGV 1 okX3_record wmX6_79 hts rfl rfl ⟨Nat.le_of_ble_eq_true rfl, Nat.le_of_ble_eq_true rfl⟩) rfl hl.1 (Nat.le_of_ble_eq_true rfl) dX6_remove_13 hc9 rfl) (fun rr2 v2 n2 rez hf he ad2 hg2 h0 H locs hB => ?_)
  have hl : lv_has ls 2 [(0, .ref (ad2 0)), (1, .int x1)] := by rw [(hg2.2 (0) (slt hsh hn 0 rfl)).2]; exact hl
  have hn : 172 ≤ n2 := Nat.le_trans hn hg2.1
  have hgo := hgo.trans hg2
  obtain ⟨hsh, hf⟩ := ck_e hf
  refine lv_aload_n hx hb dX6_remove_16 rfl (lv_at hl 0 rfl) ?_
  refine s_getR (k := 0) (t := 1) E hU hB.1 sc8 (slt hsh hn 0 rfl) rfl inlX6 (Nat.le_of_ble_eq_true rfl) rfl rfl wkX6_12 (hsh.1 0 0 1 rfl) dX6_remove_17 ?_
  refine lv_iload_n hx hb dX6_remove_20 rfl (lv_at hl 1 rfl) ?_
  refine sc_V hB (fun q h => Or.inr h) hf (fun q9 h9 => rV_W (As := [.int x1]) (rest := []) E hU hB sc7 (slt hsh hn 1 rfl) rfl ((mX5_erase l K D G ad2 rr2 _ n2 x hsh hn 1 (Or.inl (by decide)) x1) _ _ h9) (cwGV 1 okX5_erase wmX6_174 hts rfl rfl ⟨Nat.le_of_ble_eq_true rfl, Nat.le_of_ble_eq_true rfl⟩) rfl hl.1 (Nat.le_of_ble_eq_true rfl) dX6_remove_21 (aC he (Nat.le_add_right _ _) (Nat.le_add_right _ _)) rfl) (fun v3 hf H locs hB => ?_)
  refine lv_aload_n hx hb dX6_remove_24 rfl (lv_at hl 0 rfl) ?_
  refine s_getR (k := 2) (t := 20) E hU hB.1 sc8 (slt hsh hn 0 rfl) rfl inlX6 (Nat.le_of_ble_eq_true rfl) rfl rfl wkX6_28 (hsh.1 0 2 20 rfl) dX6_remove_25 ?_
  refine sc_R hf (rV_R (As := []) (rest := []) E hU hB.1 sc2 (slt hsh hn 20 rfl) rfl (mX0_all l K D G ad2 rr2 _ n2 x hsh hn 20 1 (Or.inl ⟨rfl, rfl⟩)) (cwGV 0 okX0_all wmX6_177 hts rfl rfl ⟨Nat.le_of_ble_eq_true rfl, Nat.le_of_ble_eq_true rfl⟩) rfl hl.1 (Nat.le_of_ble_eq_true rfl) dX6_remove_28 (aC he (Nat.le_add_right _ _) (Nat.le_add_right _ _)) rfl) (fun y4 hf => ?_)
  refine sc_R hf (rS_S (As := [.int y4]) (rest := []) E (mJ6_bitCount_0f7a4 l y4) (cwGS 1 okJ6_bitCount_0f7a4 wmX6_180 hts rfl rfl ⟨Nat.le_of_ble_eq_true rfl, Nat.le_of_ble_eq_true rfl⟩) rfl hl.1 (Nat.le_of_ble_eq_true rfl) dX6_remove_31 (aC he (Nat.le_add_right _ _) (Nat.le_add_right _ _)) rfl) (fun y5 hf => ?_)
  exact s_iretT E hrt hlocks hB hgo hf he dX6_remove_34
abbrev rmX6_change (c s : Nat) : Room := { frames := 9, cells := c, slots := s, locals := 221 }
set_option maxRecDepth 100000 in
set_option maxHeartbeats 4000000 in
theorem wX6_change_20 {K : Nat} {x1 : Int32} {x2 : Int32} {x3 : Int32} {t0 : Int32} {ad0 ad : Nat → Nat} {n0 n : Nat} {r0 r : sR} {v : sV} {H : Heap} {locs : List Loc} {ls : Array Slot} {fin rez : (Sum Int32 Nat × sR × sV × Nat)} (E : CallFix p m c cX6_change 6 s args wsL_law RX6) (hlocks : meth.locks = false) (hrt : meth.sig.returnType = (some .int)) (hU : sU D G s) (hst : l.stackTraces = false) (hZ : sZ (sA ad0 r0 n0 s.heap.size) s) (htab : ∀ x ∈ c.exceptionTable.toList, False) (hsh : sSh r) (hn : 172 ≤ n) (hgo : sGo r0 n0 ad0 r n ad) (hf : bX6_change_20 K x1 x2 x3 t0 r v n = some rez) (he : fin = fz n rez) (hB : sB D G (sA ad0 r0 n0 s.heap.size) s.heap ad r v n x H locs) (hl : lv_has ls 6 [(0, .ref (ad 0)), (1, .int x1), (2, .int x2), (3, .int x3)]) :
    W p l e (rmX6_change (mcT n0 fin) (msT n0 fin)) s m args below meth c H locs (n - n0) (sz n - sz n0) (vx_MQ below (sQTi D G ad0 r0 n0 x s.heap.size fin) (sXC D G ad0 r0 n0 x s.heap.size fin) args s (mcT n0 fin) (msT n0 fin) (sA ad0 r0 n0 s.heap.size)) (F0 m 20 ls [.int t0]) := by
  have hx := E.1
  have hb := E.2.1
  have hts := E.2.2.2.2
  have h0 := hgo.1
  have hf := (bX6_change_20.eq_1 ..).symm.trans hf
  refine sc_Tv htab hlocks hB hgo ⟨Nat.le_refl _, Nat.le_refl _⟩ hf he (fun q9 h9 hc9 => rS_T (As := [.int t0]) (rest := []) E hU hZ (fun q h => Or.inr h) hB (mX6_requireArgument l hst D G ad r _ n x hsh hn t0 _ _ h9) (cwGS 1 okX6_requireArgument wmX6_60 hts rfl rfl ⟨Nat.le_of_ble_eq_true rfl, Nat.le_of_ble_eq_true rfl⟩) rfl hl.1 (Nat.le_of_ble_eq_true rfl) dX6_change_20 hc9 rfl) (fun rr3 v3 n3 rez hf he ad3 hg3 h0 H locs hB => ?_)
  have hl : lv_has ls 6 [(0, .ref (ad3 0)), (1, .int x1), (2, .int x2), (3, .int x3)] := by rw [(hg3.2 (0) (slt hsh hn 0 rfl)).2]; exact hl
  have hn : 172 ≤ n3 := Nat.le_trans hn hg3.1
  have hgo := hgo.trans hg3
  obtain ⟨hsh, hf⟩ := ck_e hf
  refine lv_aload_n hx hb dX6_change_23 rfl (lv_at hl 0 rfl) ?_
  refine s_getR (k := 4) (t := 35) E hU hB.1 sc8 (slt hsh hn 0 rfl) rfl inlX6 (Nat.le_of_ble_eq_true rfl) rfl rfl wkX6_38 (hsh.1 0 4 35 rfl) dX6_change_24 ?_
  refine lv_aload_n hx hb dX6_change_27 rfl (lv_at hl 0 rfl) ?_
  refine s_getR (k := 0) (t := 1) E hU hB.1 sc8 (slt hsh hn 0 rfl) rfl inlX6 (Nat.le_of_ble_eq_true rfl) rfl rfl wkX6_12 (hsh.1 0 0 1 rfl) dX6_change_28 ?_
  refine sc_Av hB (fun q h => Or.inr h) h0 ⟨Nat.le_add_right _ _, Nat.le_add_right _ _⟩ hf he (fun q9 h9 hc9 => rV_A (As := [.ref (ad3 1)]) (rest := []) E hU hB sc5 (slt hsh hn 35 rfl) rfl (mX3_record l K D G ad3 rr3 _ n3 x hsh hn 1 (Or.inl (by decide)) _ _ h9) (cwGV 1 okX3_record wmX6_79 hts rfl rfl ⟨Nat.le_of_ble_eq_true rfl, Nat.le_of_ble_eq_true rfl⟩) rfl hl.1 (Nat.le_of_ble_eq_true rfl) dX6_change_31 hc9 rfl) (fun rr4 v4 n4 rez hf he ad4 hg4 h0 H locs hB => ?_)
  have hl : lv_has ls 6 [(0, .ref (ad4 0)), (1, .int x1), (2, .int x2), (3, .int x3)] := by rw [(hg4.2 (0) (slt hsh hn 0 rfl)).2]; exact hl
  have hn : 172 ≤ n4 := Nat.le_trans hn hg4.1
  have hgo := hgo.trans hg4
  obtain ⟨hsh, hf⟩ := ck_e hf
  refine lv_iload_n hx hb dX6_change_34 rfl (lv_at hl 2 rfl) ?_
  refine lv_if_eq (tgt := 48) hx hb dX6_change_35 rfl (fun hc => ?_) (fun hc => ?_)
  · have hf := ite_t hf hc
    refine lv_aload_n hx hb dX6_change_48 rfl (lv_at hl 0 rfl) ?_
    refine s_getR (k := 0) (t := 1) E hU hB.1 sc8 (slt hsh hn 0 rfl) rfl inlX6 (Nat.le_of_ble_eq_true rfl) rfl rfl wkX6_12 (hsh.1 0 0 1 rfl) dX6_change_49 ?_
    refine s_getR (k := 5) (t := 7) E hU hB.1 sc7 (slt hsh hn 1 rfl) rfl inlX5 (Nat.le_of_ble_eq_true rfl) rfl rfl wkX6_185 (hsh.1 1 5 7 rfl) dX6_change_52 ?_
    refine lv_astore (lv' := [(4, .ref (ad4 7)), (0, .ref (ad4 0)), (1, .int x1), (2, .int x2), (3, .int x3)]) hx hb dX6_change_55 hl (Nat.le_of_ble_eq_true rfl) rfl (fun ls hl => ?_)
    refine lv_aload hx hb dX6_change_57 (lv_at hl 0 rfl) ?_
    refine lv_iload_n hx hb dX6_change_59 rfl (lv_at hl 2 rfl) ?_
    refine s_iald E hU hB.1 (slt hsh hn 7 rfl) rfl dX6_change_60 hf (fun y5 hf => ?_)
    refine lv_istore (lv' := [(5, .int y5), (4, .ref (ad4 7)), (0, .ref (ad4 0)), (1, .int x1), (2, .int x2), (3, .int x3)]) hx hb dX6_change_61 hl (Nat.le_of_ble_eq_true rfl) rfl (fun ls hl => ?_)
    refine lv_aload hx hb dX6_change_63 (lv_at hl 1 rfl) ?_
    refine lv_iload_n hx hb dX6_change_65 rfl (lv_at hl 3 rfl) ?_
    refine lv_iload_n hx hb dX6_change_66 rfl (lv_at hl 5 rfl) ?_
    refine s_iast E hU hB (slt hsh hn 7 rfl) rfl dX6_change_67 hf (fun v6 hf H locs hB => ?_)
    refine lv_iload hx hb dX6_change_68 (lv_at hl 0 rfl) ?_
    exact s_iretT E hrt hlocks hB hgo hf he dX6_change_70
  · have hf := ite_f hf hc
    refine lv_aload_n hx hb dX6_change_38 rfl (lv_at hl 0 rfl) ?_
    refine s_getR (k := 0) (t := 1) E hU hB.1 sc8 (slt hsh hn 0 rfl) rfl inlX6 (Nat.le_of_ble_eq_true rfl) rfl rfl wkX6_12 (hsh.1 0 0 1 rfl) dX6_change_39 ?_
    refine s_getR (k := 4) (t := 6) E hU hB.1 sc7 (slt hsh hn 1 rfl) rfl inlX5 (Nat.le_of_ble_eq_true rfl) rfl rfl wkX6_130 (hsh.1 1 4 6 rfl) dX6_change_42 ?_
    refine lv_goto (tgt := 55) hx hb dX6_change_45 rfl ?_
    refine lv_astore (lv' := [(4, .ref (ad4 6)), (0, .ref (ad4 0)), (1, .int x1), (2, .int x2), (3, .int x3)]) hx hb dX6_change_55 hl (Nat.le_of_ble_eq_true rfl) rfl (fun ls hl => ?_)
    refine lv_aload hx hb dX6_change_57 (lv_at hl 0 rfl) ?_
    refine lv_iload_n hx hb dX6_change_59 rfl (lv_at hl 2 rfl) ?_
    refine s_iald E hU hB.1 (slt hsh hn 6 rfl) rfl dX6_change_60 hf (fun y7 hf => ?_)
    refine lv_istore (lv' := [(5, .int y7), (4, .ref (ad4 6)), (0, .ref (ad4 0)), (1, .int x1), (2, .int x2), (3, .int x3)]) hx hb dX6_change_61 hl (Nat.le_of_ble_eq_true rfl) rfl (fun ls hl => ?_)
    refine lv_aload hx hb dX6_change_63 (lv_at hl 1 rfl) ?_
    refine lv_iload_n hx hb dX6_change_65 rfl (lv_at hl 3 rfl) ?_
    refine lv_iload_n hx hb dX6_change_66 rfl (lv_at hl 5 rfl) ?_
    refine s_iast E hU hB (slt hsh hn 6 rfl) rfl dX6_change_67 hf (fun v8 hf H locs hB => ?_)
    refine lv_iload hx hb dX6_change_68 (lv_at hl 0 rfl) ?_
    exact s_iretT E hrt hlocks hB hgo hf he dX6_change_70
set_option maxRecDepth 100000 in
set_option maxHeartbeats 4000000 in
theorem mX6_change (l : Launch) (K : Nat) (hst : l.stackTraces = false) (D : va_G) (G : Nat → ClassId) (ad : Nat → Nat) (r : sR) (v : sV) (n : Nat) (x : Int64 × UInt64) (hsh : sSh r) (hn : 172 ≤ n) (x1 : Int32) (x2 : Int32) (x3 : Int32) : sMT sQTi l yX6_change (.code yX6_change cX6_change 6 (some .int) :: wsL_law) rmX6_change D G ad r v n x [.ref (ad 0), .int x1, .int x2, .int x3] (fX6_change K x1 x2 x3 r v n) := by
  intro sz0 q0 hf
  obtain ⟨fin, he⟩ : ∃ fin, fin = fz n q0 := ⟨_, rfl⟩
  rw [← he]
  refine vx_ofW (cc := cX6_change) (maxL := 6) (ret := (some .int)) (by decide) rfl ?_
  intro p e s m args below meth c s₁ B hml htab hv
  obtain ⟨hargs, rfl, hU, hP, hD, hZ⟩ := hv
  have hx := B.exec
  have hb := B.bytes
  have hrt := B.returns
  have hts : ∀ w ∈ wsL_law, w.before args s = true := fun w hw => atoms_spec (ws := .code yX6_change cX6_change 6 (some .int) :: wsL_law) B.pre w (List.mem_cons_of_mem _ hw)
  have hlocks := B.notSynchronized
  have E : CallFix p m c cX6_change 6 s args wsL_law RX6 := ⟨hx, hb, hml, findClass_of_methodNamed B.named, hts⟩
  have hB : sB D G (sA ad r n s.heap.size) s.heap ad r v n x s.heap [] := ⟨hP, sD_self hD, va_S.rf⟩
  have hgo : sGo r n ad r n ad := sGo.rf
  have h0 : n ≤ n := Nat.le_refl n
  have hl := lv_entry ([.ref (ad 0), .int x1, .int x2, .int x3]) (n := 6) (Nat.le_of_ble_eq_true rfl)
  refine W.eq (g2 := F0 m 0 ((lg_sl ([.ref (ad 0), .int x1, .int x2, .int x3]) ++ List.replicate (6 - (lg_sl ([.ref (ad 0), .int x1, .int x2, .int x3])).length) Slot.unset).toArray) []) (by rw [hargs]; exact lg_entry_eq _ _ _) ?_
  generalize (lg_sl ([.ref (ad 0), .int x1, .int x2, .int x3]) ++ List.replicate (6 - (lg_sl ([.ref (ad 0), .int x1, .int x2, .int x3])).length) Slot.unset).toArray = ls at hl ⊢
  have hl : lv_has ls 6 [(0, .ref (ad 0)), (1, .int x1), (2, .int x2), (3, .int x3)] := hl
  refine W_00 (n := n) ?_
  have hf := (fX6_change.eq_1 ..).symm.trans hf
  refine lv_aload_n hx hb dX6_change_0 rfl (lv_at hl 0 rfl) ?_
  refine lv_iload_n hx hb dX6_change_1 rfl (lv_at hl 1 rfl) ?_
  refine sc_Tv htab hlocks hB hgo ⟨Nat.le_refl _, Nat.le_refl _⟩ hf he (fun q9 h9 hc9 => rV_T (As := [.int x1]) (rest := []) E hU hZ (fun q h => Or.inr h) hB sc8 (slt hsh hn 0 rfl) rfl (mX6_requireAgent l hst D G ad r _ n x hsh hn x1 _ _ h9) (cwGV 1 okX6_requireAgent wmX6_171 hts rfl rfl ⟨Nat.le_of_ble_eq_true rfl, Nat.le_of_ble_eq_true rfl⟩) rfl hl.1 (Nat.le_of_ble_eq_true rfl) dX6_change_2 hc9 rfl) (fun rr1 v1 n1 rez hf he ad1 hg1 h0 H locs hB => ?_)
  have hl : lv_has ls 6 [(0, .ref (ad1 0)), (1, .int x1), (2, .int x2), (3, .int x3)] := by rw [(hg1.2 (0) (slt hsh hn 0 rfl)).2]; exact hl
  have hn : 172 ≤ n1 := Nat.le_trans hn hg1.1
  have hgo := hgo.trans hg1
  obtain ⟨hsh, hf⟩ := ck_e hf
  refine lv_iload_n hx hb dX6_change_5 rfl (lv_at hl 2 rfl) ?_
  refine lv_if_eq (tgt := 16) hx hb dX6_change_6 rfl (fun hc => ?_) (fun hc => ?_)
  · have hf := ite_t hf hc
    refine lv_iload_n hx hb dX6_change_16 rfl (lv_at hl 3 rfl) ?_
    refine sc_R hf (rS_S (As := [.int x3]) (rest := []) E (mX6_isPriority l x3) (cwGS 1 okX6_isPriority wmX6_154 hts rfl rfl ⟨Nat.le_of_ble_eq_true rfl, Nat.le_of_ble_eq_true rfl⟩) rfl hl.1 (Nat.le_of_ble_eq_true rfl) dX6_change_17 (aC he (Nat.le_add_right _ _) (Nat.le_add_right _ _)) rfl) (fun y2 hf => ?_)
    exact wX6_change_20 E hlocks hrt hU hst hZ htab hsh hn hgo hf he hB (lv_sub hl [0, 1, 2, 3] rfl)
  · have hf := ite_f hf hc
    refine lv_iload_n hx hb dX6_change_9 rfl (lv_at hl 3 rfl) ?_
    refine sc_R hf (rS_S (As := [.int x3]) (rest := []) E (mX6_isGoalOrNone l x3) (cwGS 1 okX6_isGoalOrNone wmX6_151 hts rfl rfl ⟨Nat.le_of_ble_eq_true rfl, Nat.le_of_ble_eq_true rfl⟩) rfl hl.1 (Nat.le_of_ble_eq_true rfl) dX6_change_10 (aC he (Nat.le_add_right _ _) (Nat.le_add_right _ _)) rfl) (fun y9 hf => ?_)
    refine lv_goto (tgt := 20) hx hb dX6_change_13 rfl ?_
    exact wX6_change_20 E hlocks hrt hU hst hZ htab hsh hn hgo hf he hB (lv_sub hl [0, 1, 2, 3] rfl)
abbrev rmX6_agent (c s : Nat) : Room := { frames := 9, cells := c, slots := s, locals := 221 }
set_option maxRecDepth 100000 in
set_option maxHeartbeats 4000000 in
theorem mX6_agent (l : Launch) (K : Nat) (hst : l.stackTraces = false) (D : va_G) (G : Nat → ClassId) (ad : Nat → Nat) (r : sR) (v : sV) (n : Nat) (x : Int64 × UInt64) (hsh : sSh r) (hn : 172 ≤ n) (x1 : Int32) (x2 : Int32) : sMT sQTi l yX6_agent (.code yX6_agent cX6_agent 3 (some .int) :: wsL_law) rmX6_agent D G ad r v n x [.ref (ad 0), .int x1, .int x2] (fX6_agent K x1 x2 r v n) := by
  intro sz0 q0 hf
  obtain ⟨fin, he⟩ : ∃ fin, fin = fz n q0 := ⟨_, rfl⟩
  rw [← he]
  refine vx_ofW (cc := cX6_agent) (maxL := 3) (ret := (some .int)) (by decide) rfl ?_
  intro p e s m args below meth c s₁ B hml htab hv
  obtain ⟨hargs, rfl, hU, hP, hD, hZ⟩ := hv
  have hx := B.exec
  have hb := B.bytes
  have hrt := B.returns
  have hts : ∀ w ∈ wsL_law, w.before args s = true := fun w hw => atoms_spec (ws := .code yX6_agent cX6_agent 3 (some .int) :: wsL_law) B.pre w (List.mem_cons_of_mem _ hw)
  have hlocks := B.notSynchronized
  have E : CallFix p m c cX6_agent 3 s args wsL_law RX6 := ⟨hx, hb, hml, findClass_of_methodNamed B.named, hts⟩
  have hB : sB D G (sA ad r n s.heap.size) s.heap ad r v n x s.heap [] := ⟨hP, sD_self hD, va_S.rf⟩
  have hgo : sGo r n ad r n ad := sGo.rf
  have h0 : n ≤ n := Nat.le_refl n
  have hl := lv_entry ([.ref (ad 0), .int x1, .int x2]) (n := 3) (Nat.le_of_ble_eq_true rfl)
  refine W.eq (g2 := F0 m 0 ((lg_sl ([.ref (ad 0), .int x1, .int x2]) ++ List.replicate (3 - (lg_sl ([.ref (ad 0), .int x1, .int x2])).length) Slot.unset).toArray) []) (by rw [hargs]; exact lg_entry_eq _ _ _) ?_
  generalize (lg_sl ([.ref (ad 0), .int x1, .int x2]) ++ List.replicate (3 - (lg_sl ([.ref (ad 0), .int x1, .int x2])).length) Slot.unset).toArray = ls at hl ⊢
  have hl : lv_has ls 3 [(0, .ref (ad 0)), (1, .int x1), (2, .int x2)] := hl
  refine W_00 (n := n) ?_
  have hf := (fX6_agent.eq_1 ..).symm.trans hf
  refine lv_aload_n hx hb dX6_agent_0 rfl (lv_at hl 0 rfl) ?_
  refine lv_iload_n hx hb dX6_agent_1 rfl (lv_at hl 1 rfl) ?_
  refine sc_Tv htab hlocks hB hgo ⟨Nat.le_refl _, Nat.le_refl _⟩ hf he (fun q9 h9 hc9 => rV_T (As := [.int x1]) (rest := []) E hU hZ (fun q h => Or.inr h) hB sc8 (slt hsh hn 0 rfl) rfl (mX6_requireAgent l hst D G ad r _ n x hsh hn x1 _ _ h9) (cwGV 1 okX6_requireAgent wmX6_171 hts rfl rfl ⟨Nat.le_of_ble_eq_true rfl, Nat.le_of_ble_eq_true rfl⟩) rfl hl.1 (Nat.le_of_ble_eq_true rfl) dX6_agent_2 hc9 rfl) (fun rr1 v1 n1 rez hf he ad1 hg1 h0 H locs hB => ?_)
  have hl : lv_has ls 3 [(0, .ref (ad1 0)), (1, .int x1), (2, .int x2)] := by rw [(hg1.2 (0) (slt hsh hn 0 rfl)).2]; exact hl
  have hn : 172 ≤ n1 := Nat.le_trans hn hg1.1
  have hgo := hgo.trans hg1
  obtain ⟨hsh, hf⟩ := ck_e hf
  refine lv_iload_n hx hb dX6_agent_5 rfl (lv_at hl 2 rfl) ?_
  by_cases hc0 : x2 = 0
  · have hf := ite_t hf hc0
    refine s_tsw (k := 0) (tgt := 64) hx hb dX6_agent_6 hc0 (by decide) (by decide) rfl rfl ?_
    refine lv_aload_n hx hb dX6_agent_64 rfl (lv_at hl 0 rfl) ?_
    refine s_getR (k := 0) (t := 1) E hU hB.1 sc8 (slt hsh hn 0 rfl) rfl inlX6 (Nat.le_of_ble_eq_true rfl) rfl rfl wkX6_12 (hsh.1 0 0 1 rfl) dX6_agent_65 ?_
    refine s_getR (k := 3) (t := 5) E hU hB.1 sc7 (slt hsh hn 1 rfl) rfl inlX5 (Nat.le_of_ble_eq_true rfl) rfl rfl wkX6_188 (hsh.1 1 3 5 rfl) dX6_agent_68 ?_
    refine lv_iload_n hx hb dX6_agent_71 rfl (lv_at hl 1 rfl) ?_
    refine s_iald E hU hB.1 (slt hsh hn 5 rfl) rfl dX6_agent_72 hf (fun y2 hf => ?_)
    refine sc_R hf (rS_S (As := [.int y2]) (rest := []) E (mX6_columnOf l y2) (cwGS 1 okX6_columnOf wmX6_191 hts rfl rfl ⟨Nat.le_of_ble_eq_true rfl, Nat.le_of_ble_eq_true rfl⟩) rfl hl.1 (Nat.le_of_ble_eq_true rfl) dX6_agent_73 (aC he (Nat.le_add_right _ _) (Nat.le_add_right _ _)) rfl) (fun y3 hf => ?_)
    exact s_iretT E hrt hlocks hB hgo hf he dX6_agent_76
  have hf := ite_f hf hc0
  by_cases hc1 : x2 = 1
  · have hf := ite_t hf hc1
    refine s_tsw (k := 1) (tgt := 77) hx hb dX6_agent_6 hc1 (by decide) (by decide) rfl rfl ?_
    refine lv_aload_n hx hb dX6_agent_77 rfl (lv_at hl 0 rfl) ?_
    refine s_getR (k := 0) (t := 1) E hU hB.1 sc8 (slt hsh hn 0 rfl) rfl inlX6 (Nat.le_of_ble_eq_true rfl) rfl rfl wkX6_12 (hsh.1 0 0 1 rfl) dX6_agent_78 ?_
    refine s_getR (k := 3) (t := 5) E hU hB.1 sc7 (slt hsh hn 1 rfl) rfl inlX5 (Nat.le_of_ble_eq_true rfl) rfl rfl wkX6_188 (hsh.1 1 3 5 rfl) dX6_agent_81 ?_
    refine lv_iload_n hx hb dX6_agent_84 rfl (lv_at hl 1 rfl) ?_
    refine s_iald E hU hB.1 (slt hsh hn 5 rfl) rfl dX6_agent_85 hf (fun y4 hf => ?_)
    refine sc_R hf (rS_S (As := [.int y4]) (rest := []) E (mX6_rowOf l y4) (cwGS 1 okX6_rowOf wmX6_194 hts rfl rfl ⟨Nat.le_of_ble_eq_true rfl, Nat.le_of_ble_eq_true rfl⟩) rfl hl.1 (Nat.le_of_ble_eq_true rfl) dX6_agent_86 (aC he (Nat.le_add_right _ _) (Nat.le_add_right _ _)) rfl) (fun y5 hf => ?_)
    exact s_iretT E hrt hlocks hB hgo hf he dX6_agent_89
  have hf := ite_f hf hc1
  by_cases hc2 : x2 = 2
  · have hf := ite_t hf hc2
    refine s_tsw (k := 2) (tgt := 90) hx hb dX6_agent_6 hc2 (by decide) (by decide) rfl rfl ?_
    refine lv_aload_n hx hb dX6_agent_90 rfl (lv_at hl 0 rfl) ?_
    refine s_getR (k := 0) (t := 1) E hU hB.1 sc8 (slt hsh hn 0 rfl) rfl inlX6 (Nat.le_of_ble_eq_true rfl) rfl rfl wkX6_12 (hsh.1 0 0 1 rfl) dX6_agent_91 ?_
    refine s_getR (k := 4) (t := 6) E hU hB.1 sc7 (slt hsh hn 1 rfl) rfl inlX5 (Nat.le_of_ble_eq_true rfl) rfl rfl wkX6_130 (hsh.1 1 4 6 rfl) dX6_agent_94 ?_
    refine lv_iload_n hx hb dX6_agent_97 rfl (lv_at hl 1 rfl) ?_
    refine s_iald E hU hB.1 (slt hsh hn 6 rfl) rfl dX6_agent_98 hf (fun y6 hf => ?_)
    exact s_iretT E hrt hlocks hB hgo hf he dX6_agent_99
  have hf := ite_f hf hc2
  by_cases hc3 : x2 = 3
  · have hf := ite_t hf hc3
    refine s_tsw (k := 3) (tgt := 100) hx hb dX6_agent_6 hc3 (by decide) (by decide) rfl rfl ?_
    refine lv_aload_n hx hb dX6_agent_100 rfl (lv_at hl 0 rfl) ?_
    refine s_getR (k := 0) (t := 1) E hU hB.1 sc8 (slt hsh hn 0 rfl) rfl inlX6 (Nat.le_of_ble_eq_true rfl) rfl rfl wkX6_12 (hsh.1 0 0 1 rfl) dX6_agent_101 ?_
    refine s_getR (k := 5) (t := 7) E hU hB.1 sc7 (slt hsh hn 1 rfl) rfl inlX5 (Nat.le_of_ble_eq_true rfl) rfl rfl wkX6_185 (hsh.1 1 5 7 rfl) dX6_agent_104 ?_
    refine lv_iload_n hx hb dX6_agent_107 rfl (lv_at hl 1 rfl) ?_
    refine s_iald E hU hB.1 (slt hsh hn 7 rfl) rfl dX6_agent_108 hf (fun y7 hf => ?_)
    exact s_iretT E hrt hlocks hB hgo hf he dX6_agent_109
  have hf := ite_f hf hc3
  by_cases hc4 : x2 = 4
  · have hf := ite_t hf hc4
    refine s_tsw (k := 4) (tgt := 110) hx hb dX6_agent_6 hc4 (by decide) (by decide) rfl rfl ?_
    refine lv_aload_n hx hb dX6_agent_110 rfl (lv_at hl 0 rfl) ?_
    refine s_getR (k := 0) (t := 1) E hU hB.1 sc8 (slt hsh hn 0 rfl) rfl inlX6 (Nat.le_of_ble_eq_true rfl) rfl rfl wkX6_12 (hsh.1 0 0 1 rfl) dX6_agent_111 ?_
    refine s_getR (k := 6) (t := 8) E hU hB.1 sc7 (slt hsh hn 1 rfl) rfl inlX5 (Nat.le_of_ble_eq_true rfl) rfl rfl wkX6_197 (hsh.1 1 6 8 rfl) dX6_agent_114 ?_
    refine lv_iload_n hx hb dX6_agent_117 rfl (lv_at hl 1 rfl) ?_
    refine s_iald E hU hB.1 (slt hsh hn 8 rfl) rfl dX6_agent_118 hf (fun y8 hf => ?_)
    exact s_iretT E hrt hlocks hB hgo hf he dX6_agent_119
  have hf := ite_f hf hc4
  by_cases hc5 : x2 = 5
  · have hf := ite_t hf hc5
    refine s_tsw (k := 5) (tgt := 120) hx hb dX6_agent_6 hc5 (by decide) (by decide) rfl rfl ?_
    refine lv_aload_n hx hb dX6_agent_120 rfl (lv_at hl 0 rfl) ?_
    refine s_getR (k := 0) (t := 1) E hU hB.1 sc8 (slt hsh hn 0 rfl) rfl inlX6 (Nat.le_of_ble_eq_true rfl) rfl rfl wkX6_12 (hsh.1 0 0 1 rfl) dX6_agent_121 ?_
    refine s_getR (k := 7) (t := 9) E hU hB.1 sc7 (slt hsh hn 1 rfl) rfl inlX5 (Nat.le_of_ble_eq_true rfl) rfl rfl wkX6_200 (hsh.1 1 7 9 rfl) dX6_agent_124 ?_
    refine lv_iload_n hx hb dX6_agent_127 rfl (lv_at hl 1 rfl) ?_
    refine s_iald E hU hB.1 (slt hsh hn 9 rfl) rfl dX6_agent_128 hf (fun y9 hf => ?_)
    exact s_iretT E hrt hlocks hB hgo hf he dX6_agent_129
  have hf := ite_f hf hc5
  by_cases hc6 : x2 = 6
  · have hf := ite_t hf hc6
    refine s_tsw (k := 6) (tgt := 130) hx hb dX6_agent_6 hc6 (by decide) (by decide) rfl rfl ?_
    refine lv_aload_n hx hb dX6_agent_130 rfl (lv_at hl 0 rfl) ?_
    refine s_getR (k := 0) (t := 1) E hU hB.1 sc8 (slt hsh hn 0 rfl) rfl inlX6 (Nat.le_of_ble_eq_true rfl) rfl rfl wkX6_12 (hsh.1 0 0 1 rfl) dX6_agent_131 ?_
    refine s_getR (k := 8) (t := 10) E hU hB.1 sc7 (slt hsh hn 1 rfl) rfl inlX5 (Nat.le_of_ble_eq_true rfl) rfl rfl wkX6_203 (hsh.1 1 8 10 rfl) dX6_agent_134 ?_
    refine lv_iload_n hx hb dX6_agent_137 rfl (lv_at hl 1 rfl) ?_
    refine s_iald E hU hB.1 (slt hsh hn 10 rfl) rfl dX6_agent_138 hf (fun y10 hf => ?_)
    exact s_iretT E hrt hlocks hB hgo hf he dX6_agent_139
  have hf := ite_f hf hc6
  by_cases hc7 : x2 = 7
  · have hf := ite_t hf hc7
    refine s_tsw (k := 7) (tgt := 140) hx hb dX6_agent_6 hc7 (by decide) (by decide) rfl rfl ?_
    refine lv_aload_n hx hb dX6_agent_140 rfl (lv_at hl 0 rfl) ?_
    refine s_getR (k := 2) (t := 20) E hU hB.1 sc8 (slt hsh hn 0 rfl) rfl inlX6 (Nat.le_of_ble_eq_true rfl) rfl rfl wkX6_28 (hsh.1 0 2 20 rfl) dX6_agent_141 ?_
    refine lv_iload_n hx hb dX6_agent_144 rfl (lv_at hl 1 rfl) ?_
    refine sc_R hf (rV_R (As := [.int x1]) (rest := []) E hU hB.1 sc2 (slt hsh hn 20 rfl) rfl (mX0_targetOf l D G ad1 rr1 _ n1 x hsh hn 20 1 (Or.inl ⟨rfl, rfl⟩) x1) (cwGV 1 okX0_targetOf wmX6_206 hts rfl rfl ⟨Nat.le_of_ble_eq_true rfl, Nat.le_of_ble_eq_true rfl⟩) rfl hl.1 (Nat.le_of_ble_eq_true rfl) dX6_agent_145 (aC he (Nat.le_add_right _ _) (Nat.le_add_right _ _)) rfl) (fun y11 hf => ?_)
    refine sc_R hf (rS_S (As := [.int y11]) (rest := []) E (mX6_columnOf l y11) (cwGS 1 okX6_columnOf wmX6_191 hts rfl rfl ⟨Nat.le_of_ble_eq_true rfl, Nat.le_of_ble_eq_true rfl⟩) rfl hl.1 (Nat.le_of_ble_eq_true rfl) dX6_agent_148 (aC he (Nat.le_add_right _ _) (Nat.le_add_right _ _)) rfl) (fun y12 hf => ?_)
    exact s_iretT E hrt hlocks hB hgo hf he dX6_agent_151
  have hf := ite_f hf hc7
  by_cases hc8 : x2 = 8
  · have hf := ite_t hf hc8
    refine s_tsw (k := 8) (tgt := 152) hx hb dX6_agent_6 hc8 (by decide) (by decide) rfl rfl ?_
    refine lv_aload_n hx hb dX6_agent_152 rfl (lv_at hl 0 rfl) ?_
    refine s_getR (k := 2) (t := 20) E hU hB.1 sc8 (slt hsh hn 0 rfl) rfl inlX6 (Nat.le_of_ble_eq_true rfl) rfl rfl wkX6_28 (hsh.1 0 2 20 rfl) dX6_agent_153 ?_
    refine lv_iload_n hx hb dX6_agent_156 rfl (lv_at hl 1 rfl) ?_
    refine sc_R hf (rV_R (As := [.int x1]) (rest := []) E hU hB.1 sc2 (slt hsh hn 20 rfl) rfl (mX0_targetOf l D G ad1 rr1 _ n1 x hsh hn 20 1 (Or.inl ⟨rfl, rfl⟩) x1) (cwGV 1 okX0_targetOf wmX6_206 hts rfl rfl ⟨Nat.le_of_ble_eq_true rfl, Nat.le_of_ble_eq_true rfl⟩) rfl hl.1 (Nat.le_of_ble_eq_true rfl) dX6_agent_157 (aC he (Nat.le_add_right _ _) (Nat.le_add_right _ _)) rfl) (fun y13 hf => ?_)
    refine sc_R hf (rS_S (As := [.int y13]) (rest := []) E (mX6_rowOf l y13) (cwGS 1 okX6_rowOf wmX6_194 hts rfl rfl ⟨Nat.le_of_ble_eq_true rfl, Nat.le_of_ble_eq_true rfl⟩) rfl hl.1 (Nat.le_of_ble_eq_true rfl) dX6_agent_160 (aC he (Nat.le_add_right _ _) (Nat.le_add_right _ _)) rfl) (fun y14 hf => ?_)
    exact s_iretT E hrt hlocks hB hgo hf he dX6_agent_163
  have hf := ite_f hf hc8
  by_cases hc9 : x2 = 9
  · have hf := ite_t hf hc9
    refine s_tsw (k := 9) (tgt := 164) hx hb dX6_agent_6 hc9 (by decide) (by decide) rfl rfl ?_
    refine lv_aload_n hx hb dX6_agent_164 rfl (lv_at hl 0 rfl) ?_
    refine s_getR (k := 2) (t := 20) E hU hB.1 sc8 (slt hsh hn 0 rfl) rfl inlX6 (Nat.le_of_ble_eq_true rfl) rfl rfl wkX6_28 (hsh.1 0 2 20 rfl) dX6_agent_165 ?_
    refine lv_iload_n hx hb dX6_agent_168 rfl (lv_at hl 1 rfl) ?_
    refine sc_Ai hB (fun q h => Or.inr h) h0 ⟨Nat.le_add_right _ _, Nat.le_add_right _ _⟩ hf he (fun q9 h9 hc9 => rV_A (As := [.int x1]) (rest := []) E hU hB sc2 (slt hsh hn 20 rfl) rfl (mX0_distanceLeft l K D G ad1 rr1 _ n1 x hsh hn 20 1 (Or.inl ⟨rfl, rfl⟩) x1 _ _ h9) (cwGV 1 okX0_distanceLeft wmX6_209 hts rfl rfl ⟨Nat.le_of_ble_eq_true rfl, Nat.le_of_ble_eq_true rfl⟩) rfl hl.1 (Nat.le_of_ble_eq_true rfl) dX6_agent_169 hc9 rfl) (fun y15 rr15 v15 n15 rez hf he ad15 hg15 h0 H locs hB => ?_)
    have hl : lv_has ls 3 [(0, .ref (ad15 0)), (1, .int x1), (2, .int x2)] := by rw [(hg15.2 (0) (slt hsh hn 0 rfl)).2]; exact hl
    have hn : 172 ≤ n15 := Nat.le_trans hn hg15.1
    have hgo := hgo.trans hg15
    obtain ⟨hsh, hf⟩ := ck_e hf
    exact s_iretT E hrt hlocks hB hgo hf he dX6_agent_172
  have hf := ite_f hf hc9
  by_cases hc10 : x2 = 10
  · have hf := ite_t hf hc10
    refine s_tsw (k := 10) (tgt := 173) hx hb dX6_agent_6 hc10 (by decide) (by decide) rfl rfl ?_
    refine lv_aload_n hx hb dX6_agent_173 rfl (lv_at hl 0 rfl) ?_
    refine s_getR (k := 2) (t := 20) E hU hB.1 sc8 (slt hsh hn 0 rfl) rfl inlX6 (Nat.le_of_ble_eq_true rfl) rfl rfl wkX6_28 (hsh.1 0 2 20 rfl) dX6_agent_174 ?_
    refine lv_iload_n hx hb dX6_agent_177 rfl (lv_at hl 1 rfl) ?_
    refine sc_R hf (rV_R (As := [.int x1]) (rest := []) E hU hB.1 sc2 (slt hsh hn 20 rfl) rfl (mX0_isSettled l D G ad1 rr1 _ n1 x hsh hn 20 1 (Or.inl ⟨rfl, rfl⟩) x1) (cwGV 1 okX0_isSettled wmX6_212 hts rfl rfl ⟨Nat.le_of_ble_eq_true rfl, Nat.le_of_ble_eq_true rfl⟩) rfl hl.1 (Nat.le_of_ble_eq_true rfl) dX6_agent_178 (aC he (Nat.le_add_right _ _) (Nat.le_add_right _ _)) rfl) (fun y16 hf => ?_)
    refine lv_if_eq (tgt := 188) hx hb dX6_agent_181 rfl (fun hc => ?_) (fun hc => ?_)
    · have hf := ite_t hf hc
      refine lv_iconst (v := 0) hx hb dX6_agent_188 rfl ?_
      exact s_iretT E hrt hlocks hB hgo hf he dX6_agent_189
    · have hf := ite_f hf hc
      refine lv_iconst (v := 1) hx hb dX6_agent_184 rfl ?_
      refine lv_goto (tgt := 189) hx hb dX6_agent_185 rfl ?_
      exact s_iretT E hrt hlocks hB hgo hf he dX6_agent_189
  have hf := ite_f hf hc10
  refine lv_tableOut (tgt := 190) hx hb dX6_agent_6 (by have h0 := ni_ hc0 (z := 0) (by decide); have h1 := ni_ hc1 (z := 1) (by decide); have h2 := ni_ hc2 (z := 2) (by decide); have h3 := ni_ hc3 (z := 3) (by decide); have h4 := ni_ hc4 (z := 4) (by decide); have h5 := ni_ hc5 (z := 5) (by decide); have h6 := ni_ hc6 (z := 6) (by decide); have h7 := ni_ hc7 (z := 7) (by decide); have h8 := ni_ hc8 (z := 8) (by decide); have h9 := ni_ hc9 (z := 9) (by decide); have h10 := ni_ hc10 (z := 10) (by decide); omega) rfl ?_
  exact s_thr E hU hst hZ htab hlocks hB hgo hl.1 sxk2 (List.mem_of_getElem? (i := 5) rfl) dX6_agent_190 dX6_agent_193 dX6_agent_194 dX6_agent_196 dX6_agent_199 (Nat.le_of_ble_eq_true rfl) (Nat.le_of_ble_eq_true rfl) ⟨Nat.le_refl _, Nat.le_refl _⟩ hf he
abbrev rmX6_agents (c s : Nat) : Room := { frames := 8, cells := c, slots := s, locals := 200 }
set_option maxRecDepth 100000 in
set_option maxHeartbeats 4000000 in
theorem mX6_agents (l : Launch) (K : Nat) (hst : l.stackTraces = false) (D : va_G) (G : Nat → ClassId) (ad : Nat → Nat) (r : sR) (v : sV) (n : Nat) (x : Int64 × UInt64) (hsh : sSh r) (hn : 172 ≤ n) (x1 : Int32) : sMT sQTi l yX6_agents (.code yX6_agents cX6_agents 2 (some .int) :: wsL_law) rmX6_agents D G ad r v n x [.ref (ad 0), .int x1] (fX6_agents K x1 r v n) := by
  intro sz0 q0 hf
  obtain ⟨fin, he⟩ : ∃ fin, fin = fz n q0 := ⟨_, rfl⟩
  rw [← he]
  refine vx_ofW (cc := cX6_agents) (maxL := 2) (ret := (some .int)) (by decide) rfl ?_
  intro p e s m args below meth c s₁ B hml htab hv
  obtain ⟨hargs, rfl, hU, hP, hD, hZ⟩ := hv
  have hx := B.exec
  have hb := B.bytes
  have hrt := B.returns
  have hts : ∀ w ∈ wsL_law, w.before args s = true := fun w hw => atoms_spec (ws := .code yX6_agents cX6_agents 2 (some .int) :: wsL_law) B.pre w (List.mem_cons_of_mem _ hw)
  have hlocks := B.notSynchronized
  have E : CallFix p m c cX6_agents 2 s args wsL_law RX6 := ⟨hx, hb, hml, findClass_of_methodNamed B.named, hts⟩
  have hB : sB D G (sA ad r n s.heap.size) s.heap ad r v n x s.heap [] := ⟨hP, sD_self hD, va_S.rf⟩
  have hgo : sGo r n ad r n ad := sGo.rf
  have h0 : n ≤ n := Nat.le_refl n
  have hl := lv_entry ([.ref (ad 0), .int x1]) (n := 2) (Nat.le_of_ble_eq_true rfl)
  refine W.eq (g2 := F0 m 0 ((lg_sl ([.ref (ad 0), .int x1]) ++ List.replicate (2 - (lg_sl ([.ref (ad 0), .int x1])).length) Slot.unset).toArray) []) (by rw [hargs]; exact lg_entry_eq _ _ _) ?_
  generalize (lg_sl ([.ref (ad 0), .int x1]) ++ List.replicate (2 - (lg_sl ([.ref (ad 0), .int x1])).length) Slot.unset).toArray = ls at hl ⊢
  have hl : lv_has ls 2 [(0, .ref (ad 0)), (1, .int x1)] := hl
  refine W_00 (n := n) ?_
  have hf := (fX6_agents.eq_1 ..).symm.trans hf
  refine lv_iload_n hx hb dX6_agents_0 rfl (lv_at hl 1 rfl) ?_
  by_cases hc0 : x1 = 0
  · have hf := ite_t hf hc0
    refine s_tsw (k := 0) (tgt := 36) hx hb dX6_agents_1 hc0 (by decide) (by decide) rfl rfl ?_
    refine lv_aload_n hx hb dX6_agents_36 rfl (lv_at hl 0 rfl) ?_
    refine s_getR (k := 2) (t := 20) E hU hB.1 sc8 (slt hsh hn 0 rfl) rfl inlX6 (Nat.le_of_ble_eq_true rfl) rfl rfl wkX6_28 (hsh.1 0 2 20 rfl) dX6_agents_37 ?_
    refine sc_R hf (rV_R (As := []) (rest := []) E hU hB.1 sc2 (slt hsh hn 20 rfl) rfl (mX0_all l K D G ad r _ n x hsh hn 20 1 (Or.inl ⟨rfl, rfl⟩)) (cwGV 0 okX0_all wmX6_177 hts rfl rfl ⟨Nat.le_of_ble_eq_true rfl, Nat.le_of_ble_eq_true rfl⟩) rfl hl.1 (Nat.le_of_ble_eq_true rfl) dX6_agents_40 (aC he (Nat.le_add_right _ _) (Nat.le_add_right _ _)) rfl) (fun y1 hf => ?_)
    exact s_iretT E hrt hlocks hB hgo hf he dX6_agents_43
  have hf := ite_f hf hc0
  by_cases hc1 : x1 = 1
  · have hf := ite_t hf hc1
    refine s_tsw (k := 1) (tgt := 44) hx hb dX6_agents_1 hc1 (by decide) (by decide) rfl rfl ?_
    refine lv_aload_n hx hb dX6_agents_44 rfl (lv_at hl 0 rfl) ?_
    refine s_getR (k := 2) (t := 20) E hU hB.1 sc8 (slt hsh hn 0 rfl) rfl inlX6 (Nat.le_of_ble_eq_true rfl) rfl rfl wkX6_28 (hsh.1 0 2 20 rfl) dX6_agents_45 ?_
    refine sc_R hf (rV_R (As := []) (rest := []) E hU hB.1 sc2 (slt hsh hn 20 rfl) rfl (mX0_settledOnes l K D G ad r _ n x hsh hn 20 1 (Or.inl ⟨rfl, rfl⟩)) (cwGV 0 okX0_settledOnes wmX6_217 hts rfl rfl ⟨Nat.le_of_ble_eq_true rfl, Nat.le_of_ble_eq_true rfl⟩) rfl hl.1 (Nat.le_of_ble_eq_true rfl) dX6_agents_48 (aC he (Nat.le_add_right _ _) (Nat.le_add_right _ _)) rfl) (fun y2 hf => ?_)
    exact s_iretT E hrt hlocks hB hgo hf he dX6_agents_51
  have hf := ite_f hf hc1
  by_cases hc2 : x1 = 2
  · have hf := ite_t hf hc2
    refine s_tsw (k := 2) (tgt := 52) hx hb dX6_agents_1 hc2 (by decide) (by decide) rfl rfl ?_
    refine lv_aload_n hx hb dX6_agents_52 rfl (lv_at hl 0 rfl) ?_
    refine s_getR (k := 2) (t := 20) E hU hB.1 sc8 (slt hsh hn 0 rfl) rfl inlX6 (Nat.le_of_ble_eq_true rfl) rfl rfl wkX6_28 (hsh.1 0 2 20 rfl) dX6_agents_53 ?_
    refine sc_R hf (rV_R (As := []) (rest := []) E hU hB.1 sc2 (slt hsh hn 20 rfl) rfl (mX0_stuckOnes l K D G ad r _ n x hsh hn 20 1 (Or.inl ⟨rfl, rfl⟩)) (cwGV 0 okX0_stuckOnes wmX6_220 hts rfl rfl ⟨Nat.le_of_ble_eq_true rfl, Nat.le_of_ble_eq_true rfl⟩) rfl hl.1 (Nat.le_of_ble_eq_true rfl) dX6_agents_56 (aC he (Nat.le_add_right _ _) (Nat.le_add_right _ _)) rfl) (fun y3 hf => ?_)
    exact s_iretT E hrt hlocks hB hgo hf he dX6_agents_59
  have hf := ite_f hf hc2
  by_cases hc3 : x1 = 3
  · have hf := ite_t hf hc3
    refine s_tsw (k := 3) (tgt := 60) hx hb dX6_agents_1 hc3 (by decide) (by decide) rfl rfl ?_
    refine lv_aload_n hx hb dX6_agents_60 rfl (lv_at hl 0 rfl) ?_
    refine s_getR (k := 2) (t := 20) E hU hB.1 sc8 (slt hsh hn 0 rfl) rfl inlX6 (Nat.le_of_ble_eq_true rfl) rfl rfl wkX6_28 (hsh.1 0 2 20 rfl) dX6_agents_61 ?_
    refine sc_R hf (rV_R (As := []) (rest := []) E hU hB.1 sc2 (slt hsh hn 20 rfl) rfl (mX0_leadingOnes l K D G ad r _ n x hsh hn 20 1 (Or.inl ⟨rfl, rfl⟩)) (cwGV 0 okX0_leadingOnes wmX6_223 hts rfl rfl ⟨Nat.le_of_ble_eq_true rfl, Nat.le_of_ble_eq_true rfl⟩) rfl hl.1 (Nat.le_of_ble_eq_true rfl) dX6_agents_64 (aC he (Nat.le_add_right _ _) (Nat.le_add_right _ _)) rfl) (fun y4 hf => ?_)
    exact s_iretT E hrt hlocks hB hgo hf he dX6_agents_67
  have hf := ite_f hf hc3
  by_cases hc4 : x1 = 4
  · have hf := ite_t hf hc4
    refine s_tsw (k := 4) (tgt := 68) hx hb dX6_agents_1 hc4 (by decide) (by decide) rfl rfl ?_
    refine lv_aload_n hx hb dX6_agents_68 rfl (lv_at hl 0 rfl) ?_
    refine s_getR (k := 2) (t := 20) E hU hB.1 sc8 (slt hsh hn 0 rfl) rfl inlX6 (Nat.le_of_ble_eq_true rfl) rfl rfl wkX6_28 (hsh.1 0 2 20 rfl) dX6_agents_69 ?_
    refine sc_R hf (rV_R (As := []) (rest := []) E hU hB.1 sc2 (slt hsh hn 20 rfl) rfl (mX0_memberOnes l K D G ad r _ n x hsh hn 20 1 (Or.inl ⟨rfl, rfl⟩)) (cwGV 0 okX0_memberOnes wmX6_226 hts rfl rfl ⟨Nat.le_of_ble_eq_true rfl, Nat.le_of_ble_eq_true rfl⟩) rfl hl.1 (Nat.le_of_ble_eq_true rfl) dX6_agents_72 (aC he (Nat.le_add_right _ _) (Nat.le_add_right _ _)) rfl) (fun y5 hf => ?_)
    exact s_iretT E hrt hlocks hB hgo hf he dX6_agents_75
  have hf := ite_f hf hc4
  refine lv_tableOut (tgt := 76) hx hb dX6_agents_1 (by have h0 := ni_ hc0 (z := 0) (by decide); have h1 := ni_ hc1 (z := 1) (by decide); have h2 := ni_ hc2 (z := 2) (by decide); have h3 := ni_ hc3 (z := 3) (by decide); have h4 := ni_ hc4 (z := 4) (by decide); omega) rfl ?_
  exact s_thr E hU hst hZ htab hlocks hB hgo hl.1 sxk2 (List.mem_of_getElem? (i := 6) rfl) dX6_agents_76 dX6_agents_79 dX6_agents_80 dX6_agents_82 dX6_agents_85 (Nat.le_of_ble_eq_true rfl) (Nat.le_of_ble_eq_true rfl) ⟨Nat.le_refl _, Nat.le_refl _⟩ hf he
abbrev rmX6_join (c s : Nat) : Room := { frames := 9, cells := c, slots := s, locals := 221 }
set_option maxRecDepth 100000 in
set_option maxHeartbeats 4000000 in
theorem wX6_join_44 {K : Nat} {x1 : Int32} {x2 : Int32} {x3 : Int32} {x4 : Int32} {t0 : Int32} {ad0 ad : Nat → Nat} {n0 n : Nat} {r0 r : sR} {v : sV} {H : Heap} {locs : List Loc} {ls : Array Slot} {fin rez : (Sum Int32 Nat × sR × sV × Nat)} (E : CallFix p m c cX6_join 5 s args wsL_law RX6) (hlocks : meth.locks = false) (hrt : meth.sig.returnType = (some .int)) (hU : sU D G s) (hst : l.stackTraces = false) (hZ : sZ (sA ad0 r0 n0 s.heap.size) s) (htab : ∀ x ∈ c.exceptionTable.toList, False) (hsh : sSh r) (hn : 172 ≤ n) (hgo : sGo r0 n0 ad0 r n ad) (hf : bX6_join_44 K x1 x2 x3 x4 t0 r v n = some rez) (he : fin = fz n rez) (hB : sB D G (sA ad0 r0 n0 s.heap.size) s.heap ad r v n x H locs) (hl : lv_has ls 5 [(0, .ref (ad 0)), (1, .int x1), (2, .int x2), (3, .int x3), (4, .int x4)]) :
    W p l e (rmX6_join (mcT n0 fin) (msT n0 fin)) s m args below meth c H locs (n - n0) (sz n - sz n0) (vx_MQ below (sQTi D G ad0 r0 n0 x s.heap.size fin) (sXC D G ad0 r0 n0 x s.heap.size fin) args s (mcT n0 fin) (msT n0 fin) (sA ad0 r0 n0 s.heap.size)) (F0 m 44 ls [.int t0]) := by
  have hx := E.1
  have hb := E.2.1
  have hts := E.2.2.2.2
  have h0 := hgo.1
  have hf := (bX6_join_44.eq_1 ..).symm.trans hf
  refine sc_Tv htab hlocks hB hgo ⟨Nat.le_refl _, Nat.le_refl _⟩ hf he (fun q9 h9 hc9 => rS_T (As := [.int t0]) (rest := []) E hU hZ (fun q h => Or.inr h) hB (mX6_requireArgument l hst D G ad r _ n x hsh hn t0 _ _ h9) (cwGS 1 okX6_requireArgument wmX6_60 hts rfl rfl ⟨Nat.le_of_ble_eq_true rfl, Nat.le_of_ble_eq_true rfl⟩) rfl hl.1 (Nat.le_of_ble_eq_true rfl) dX6_join_44 hc9 rfl) (fun rr3 v3 n3 rez hf he ad3 hg3 h0 H locs hB => ?_)
  have hl : lv_has ls 5 [(0, .ref (ad3 0)), (1, .int x1), (2, .int x2), (3, .int x3), (4, .int x4)] := by rw [(hg3.2 (0) (slt hsh hn 0 rfl)).2]; exact hl
  have hn : 172 ≤ n3 := Nat.le_trans hn hg3.1
  have hgo := hgo.trans hg3
  obtain ⟨hsh, hf⟩ := ck_e hf
  refine lv_aload_n hx hb dX6_join_47 rfl (lv_at hl 0 rfl) ?_
  refine s_getR (k := 2) (t := 20) E hU hB.1 sc8 (slt hsh hn 0 rfl) rfl inlX6 (Nat.le_of_ble_eq_true rfl) rfl rfl wkX6_28 (hsh.1 0 2 20 rfl) dX6_join_48 ?_
  refine lv_iload_n hx hb dX6_join_51 rfl (lv_at hl 1 rfl) ?_
  refine sc_R hf (rV_R (As := [.int x1]) (rest := []) E hU hB.1 sc2 (slt hsh hn 20 rfl) rfl (mX0_isLeader l K D G ad3 rr3 _ n3 x hsh hn 20 1 (Or.inl ⟨rfl, rfl⟩) x1) (cwGV 1 okX0_isLeader wmX6_234 hts rfl rfl ⟨Nat.le_of_ble_eq_true rfl, Nat.le_of_ble_eq_true rfl⟩) rfl hl.1 (Nat.le_of_ble_eq_true rfl) dX6_join_52 (aC he (Nat.le_add_right _ _) (Nat.le_add_right _ _)) rfl) (fun y4 hf => ?_)
  refine lv_if_ne (tgt := 69) hx hb dX6_join_55 rfl (fun hc => ?_) (fun hc => ?_)
  · have hf := ite_f hf hc
    exact s_thr E hU hst hZ htab hlocks hB hgo hl.1 sxk3 (List.mem_of_getElem? (i := 7) rfl) dX6_join_69 dX6_join_72 dX6_join_73 dX6_join_75 dX6_join_78 (Nat.le_of_ble_eq_true rfl) (Nat.le_of_ble_eq_true rfl) ⟨Nat.le_refl _, Nat.le_refl _⟩ hf he
  · have hf := ite_t hf hc
    refine lv_aload_n hx hb dX6_join_58 rfl (lv_at hl 0 rfl) ?_
    refine s_getR (k := 2) (t := 20) E hU hB.1 sc8 (slt hsh hn 0 rfl) rfl inlX6 (Nat.le_of_ble_eq_true rfl) rfl rfl wkX6_28 (hsh.1 0 2 20 rfl) dX6_join_59 ?_
    refine lv_iload_n hx hb dX6_join_62 rfl (lv_at hl 2 rfl) ?_
    refine sc_R hf (rV_R (As := [.int x2]) (rest := []) E hU hB.1 sc2 (slt hsh hn 20 rfl) rfl (mX0_isMember l D G ad3 rr3 _ n3 x hsh hn 20 1 (Or.inl ⟨rfl, rfl⟩) x2) (cwGV 1 okX0_isMember wmX6_237 hts rfl rfl ⟨Nat.le_of_ble_eq_true rfl, Nat.le_of_ble_eq_true rfl⟩) rfl hl.1 (Nat.le_of_ble_eq_true rfl) dX6_join_63 (aC he (Nat.le_add_right _ _) (Nat.le_add_right _ _)) rfl) (fun y5 hf => ?_)
    refine lv_if_eq (tgt := 79) hx hb dX6_join_66 rfl (fun hc => ?_) (fun hc => ?_)
    · have hf := ite_t hf hc
      refine lv_aload_n hx hb dX6_join_79 rfl (lv_at hl 0 rfl) ?_
      refine s_getR (k := 4) (t := 35) E hU hB.1 sc8 (slt hsh hn 0 rfl) rfl inlX6 (Nat.le_of_ble_eq_true rfl) rfl rfl wkX6_38 (hsh.1 0 4 35 rfl) dX6_join_80 ?_
      refine lv_aload_n hx hb dX6_join_83 rfl (lv_at hl 0 rfl) ?_
      refine s_getR (k := 0) (t := 1) E hU hB.1 sc8 (slt hsh hn 0 rfl) rfl inlX6 (Nat.le_of_ble_eq_true rfl) rfl rfl wkX6_12 (hsh.1 0 0 1 rfl) dX6_join_84 ?_
      refine sc_Av hB (fun q h => Or.inr h) h0 ⟨Nat.le_add_right _ _, Nat.le_add_right _ _⟩ hf he (fun q9 h9 hc9 => rV_A (As := [.ref (ad3 1)]) (rest := []) E hU hB sc5 (slt hsh hn 35 rfl) rfl (mX3_record l K D G ad3 rr3 _ n3 x hsh hn 1 (Or.inl (by decide)) _ _ h9) (cwGV 1 okX3_record wmX6_79 hts rfl rfl ⟨Nat.le_of_ble_eq_true rfl, Nat.le_of_ble_eq_true rfl⟩) rfl hl.1 (Nat.le_of_ble_eq_true rfl) dX6_join_87 hc9 rfl) (fun rr6 v6 n6 rez hf he ad6 hg6 h0 H locs hB => ?_)
      have hl : lv_has ls 5 [(0, .ref (ad6 0)), (1, .int x1), (2, .int x2), (3, .int x3), (4, .int x4)] := by rw [(hg6.2 (0) (slt hsh hn 0 rfl)).2]; exact hl
      have hn : 172 ≤ n6 := Nat.le_trans hn hg6.1
      have hgo := hgo.trans hg6
      obtain ⟨hsh, hf⟩ := ck_e hf
      refine lv_aload_n hx hb dX6_join_90 rfl (lv_at hl 0 rfl) ?_
      refine s_getR (k := 0) (t := 1) E hU hB.1 sc8 (slt hsh hn 0 rfl) rfl inlX6 (Nat.le_of_ble_eq_true rfl) rfl rfl wkX6_12 (hsh.1 0 0 1 rfl) dX6_join_91 ?_
      refine s_getR (k := 8) (t := 10) E hU hB.1 sc7 (slt hsh hn 1 rfl) rfl inlX5 (Nat.le_of_ble_eq_true rfl) rfl rfl wkX6_203 (hsh.1 1 8 10 rfl) dX6_join_94 ?_
      refine lv_iload_n hx hb dX6_join_97 rfl (lv_at hl 1 rfl) ?_
      refine lv_iload_n hx hb dX6_join_98 rfl (lv_at hl 2 rfl) ?_
      refine s_iast E hU hB (slt hsh hn 10 rfl) rfl dX6_join_99 hf (fun v7 hf H locs hB => ?_)
      refine lv_aload_n hx hb dX6_join_100 rfl (lv_at hl 0 rfl) ?_
      refine s_getR (k := 0) (t := 1) E hU hB.1 sc8 (slt hsh hn 0 rfl) rfl inlX6 (Nat.le_of_ble_eq_true rfl) rfl rfl wkX6_12 (hsh.1 0 0 1 rfl) dX6_join_101 ?_
      refine s_getR (k := 9) (t := 11) E hU hB.1 sc7 (slt hsh hn 1 rfl) rfl inlX5 (Nat.le_of_ble_eq_true rfl) rfl rfl wkX6_242 (hsh.1 1 9 11 rfl) dX6_join_104 ?_
      refine lv_iload_n hx hb dX6_join_107 rfl (lv_at hl 1 rfl) ?_
      refine lv_iload_n hx hb dX6_join_108 rfl (lv_at hl 3 rfl) ?_
      refine s_iast E hU hB (slt hsh hn 11 rfl) rfl dX6_join_109 hf (fun v8 hf H locs hB => ?_)
      refine lv_aload_n hx hb dX6_join_110 rfl (lv_at hl 0 rfl) ?_
      refine s_getR (k := 0) (t := 1) E hU hB.1 sc8 (slt hsh hn 0 rfl) rfl inlX6 (Nat.le_of_ble_eq_true rfl) rfl rfl wkX6_12 (hsh.1 0 0 1 rfl) dX6_join_111 ?_
      refine s_getR (k := 10) (t := 12) E hU hB.1 sc7 (slt hsh hn 1 rfl) rfl inlX5 (Nat.le_of_ble_eq_true rfl) rfl rfl wkX6_245 (hsh.1 1 10 12 rfl) dX6_join_114 ?_
      refine lv_iload_n hx hb dX6_join_117 rfl (lv_at hl 1 rfl) ?_
      refine lv_iload hx hb dX6_join_118 (lv_at hl 4 rfl) ?_
      refine s_iast E hU hB (slt hsh hn 12 rfl) rfl dX6_join_120 hf (fun v9 hf H locs hB => ?_)
      refine lv_aload_n hx hb dX6_join_121 rfl (lv_at hl 0 rfl) ?_
      refine s_getR (k := 2) (t := 20) E hU hB.1 sc8 (slt hsh hn 0 rfl) rfl inlX6 (Nat.le_of_ble_eq_true rfl) rfl rfl wkX6_28 (hsh.1 0 2 20 rfl) dX6_join_122 ?_
      refine lv_iload_n hx hb dX6_join_125 rfl (lv_at hl 2 rfl) ?_
      refine sc_R hf (rV_R (As := [.int x2]) (rest := []) E hU hB.1 sc2 (slt hsh hn 20 rfl) rfl (mX0_membersOf l K D G ad6 rr6 _ n6 x hsh hn 20 1 (Or.inl ⟨rfl, rfl⟩) x2) (cwGV 1 okX0_membersOf wmX6_248 hts rfl rfl ⟨Nat.le_of_ble_eq_true rfl, Nat.le_of_ble_eq_true rfl⟩) rfl hl.1 (Nat.le_of_ble_eq_true rfl) dX6_join_126 (aC he (Nat.le_add_right _ _) (Nat.le_add_right _ _)) rfl) (fun y10 hf => ?_)
      refine sc_R hf (rS_S (As := [.int y10]) (rest := []) E (mJ6_bitCount_0f7a4 l y10) (cwGS 1 okJ6_bitCount_0f7a4 wmX6_180 hts rfl rfl ⟨Nat.le_of_ble_eq_true rfl, Nat.le_of_ble_eq_true rfl⟩) rfl hl.1 (Nat.le_of_ble_eq_true rfl) dX6_join_129 (aC he (Nat.le_add_right _ _) (Nat.le_add_right _ _)) rfl) (fun y11 hf => ?_)
      exact s_iretT E hrt hlocks hB hgo hf he dX6_join_132
    · have hf := ite_f hf hc
      exact s_thr E hU hst hZ htab hlocks hB hgo hl.1 sxk3 (List.mem_of_getElem? (i := 7) rfl) dX6_join_69 dX6_join_72 dX6_join_73 dX6_join_75 dX6_join_78 (Nat.le_of_ble_eq_true rfl) (Nat.le_of_ble_eq_true rfl) ⟨Nat.le_refl _, Nat.le_refl _⟩ hf he
set_option maxRecDepth 100000 in
set_option maxHeartbeats 4000000 in
theorem mX6_join (l : Launch) (K : Nat) (hst : l.stackTraces = false) (D : va_G) (G : Nat → ClassId) (ad : Nat → Nat) (r : sR) (v : sV) (n : Nat) (x : Int64 × UInt64) (hsh : sSh r) (hn : 172 ≤ n) (x1 : Int32) (x2 : Int32) (x3 : Int32) (x4 : Int32) : sMT sQTi l yX6_join (.code yX6_join cX6_join 5 (some .int) :: wsL_law) rmX6_join D G ad r v n x [.ref (ad 0), .int x1, .int x2, .int x3, .int x4] (fX6_join K x1 x2 x3 x4 r v n) := by
  intro sz0 q0 hf
  obtain ⟨fin, he⟩ : ∃ fin, fin = fz n q0 := ⟨_, rfl⟩
  rw [← he]
  refine vx_ofW (cc := cX6_join) (maxL := 5) (ret := (some .int)) (by decide) rfl ?_
  intro p e s m args below meth c s₁ B hml htab hv
  obtain ⟨hargs, rfl, hU, hP, hD, hZ⟩ := hv
  have hx := B.exec
  have hb := B.bytes
  have hrt := B.returns
  have hts : ∀ w ∈ wsL_law, w.before args s = true := fun w hw => atoms_spec (ws := .code yX6_join cX6_join 5 (some .int) :: wsL_law) B.pre w (List.mem_cons_of_mem _ hw)
  have hlocks := B.notSynchronized
  have E : CallFix p m c cX6_join 5 s args wsL_law RX6 := ⟨hx, hb, hml, findClass_of_methodNamed B.named, hts⟩
  have hB : sB D G (sA ad r n s.heap.size) s.heap ad r v n x s.heap [] := ⟨hP, sD_self hD, va_S.rf⟩
  have hgo : sGo r n ad r n ad := sGo.rf
  have h0 : n ≤ n := Nat.le_refl n
  have hl := lv_entry ([.ref (ad 0), .int x1, .int x2, .int x3, .int x4]) (n := 5) (Nat.le_of_ble_eq_true rfl)
  refine W.eq (g2 := F0 m 0 ((lg_sl ([.ref (ad 0), .int x1, .int x2, .int x3, .int x4]) ++ List.replicate (5 - (lg_sl ([.ref (ad 0), .int x1, .int x2, .int x3, .int x4])).length) Slot.unset).toArray) []) (by rw [hargs]; exact lg_entry_eq _ _ _) ?_
  generalize (lg_sl ([.ref (ad 0), .int x1, .int x2, .int x3, .int x4]) ++ List.replicate (5 - (lg_sl ([.ref (ad 0), .int x1, .int x2, .int x3, .int x4])).length) Slot.unset).toArray = ls at hl ⊢
  have hl : lv_has ls 5 [(0, .ref (ad 0)), (1, .int x1), (2, .int x2), (3, .int x3), (4, .int x4)] := hl
  refine W_00 (n := n) ?_
  have hf := (fX6_join.eq_1 ..).symm.trans hf
  refine lv_aload_n hx hb dX6_join_0 rfl (lv_at hl 0 rfl) ?_
  refine lv_iload_n hx hb dX6_join_1 rfl (lv_at hl 1 rfl) ?_
  refine sc_Tv htab hlocks hB hgo ⟨Nat.le_refl _, Nat.le_refl _⟩ hf he (fun q9 h9 hc9 => rV_T (As := [.int x1]) (rest := []) E hU hZ (fun q h => Or.inr h) hB sc8 (slt hsh hn 0 rfl) rfl (mX6_requireAgent l hst D G ad r _ n x hsh hn x1 _ _ h9) (cwGV 1 okX6_requireAgent wmX6_171 hts rfl rfl ⟨Nat.le_of_ble_eq_true rfl, Nat.le_of_ble_eq_true rfl⟩) rfl hl.1 (Nat.le_of_ble_eq_true rfl) dX6_join_2 hc9 rfl) (fun rr1 v1 n1 rez hf he ad1 hg1 h0 H locs hB => ?_)
  have hl : lv_has ls 5 [(0, .ref (ad1 0)), (1, .int x1), (2, .int x2), (3, .int x3), (4, .int x4)] := by rw [(hg1.2 (0) (slt hsh hn 0 rfl)).2]; exact hl
  have hn : 172 ≤ n1 := Nat.le_trans hn hg1.1
  have hgo := hgo.trans hg1
  obtain ⟨hsh, hf⟩ := ck_e hf
  refine lv_aload_n hx hb dX6_join_5 rfl (lv_at hl 0 rfl) ?_
  refine lv_iload_n hx hb dX6_join_6 rfl (lv_at hl 2 rfl) ?_
  refine sc_Tv htab hlocks hB hgo ⟨Nat.le_refl _, Nat.le_refl _⟩ hf he (fun q9 h9 hc9 => rV_T (As := [.int x2]) (rest := []) E hU hZ (fun q h => Or.inr h) hB sc8 (slt hsh hn 0 rfl) rfl (mX6_requireAgent l hst D G ad1 rr1 _ n1 x hsh hn x2 _ _ h9) (cwGV 1 okX6_requireAgent wmX6_171 hts rfl rfl ⟨Nat.le_of_ble_eq_true rfl, Nat.le_of_ble_eq_true rfl⟩) rfl hl.1 (Nat.le_of_ble_eq_true rfl) dX6_join_7 hc9 rfl) (fun rr2 v2 n2 rez hf he ad2 hg2 h0 H locs hB => ?_)
  have hl : lv_has ls 5 [(0, .ref (ad2 0)), (1, .int x1), (2, .int x2), (3, .int x3), (4, .int x4)] := by rw [(hg2.2 (0) (slt hsh hn 0 rfl)).2]; exact hl
  have hn : 172 ≤ n2 := Nat.le_trans hn hg2.1
  have hgo := hgo.trans hg2
  obtain ⟨hsh, hf⟩ := ck_e hf
  refine lv_iload_n hx hb dX6_join_10 rfl (lv_at hl 1 rfl) ?_
  refine lv_iload_n hx hb dX6_join_11 rfl (lv_at hl 2 rfl) ?_
  refine lv_icmp_eq (tgt := 43) hx hb dX6_join_12 rfl (fun hc => ?_) (fun hc => ?_)
  · have hf := ite_t hf hc
    refine lv_iconst (v := 0) hx hb dX6_join_43 rfl ?_
    exact wX6_join_44 E hlocks hrt hU hst hZ htab hsh hn hgo hf he hB (lv_sub hl [0, 1, 2, 3, 4] rfl)
  · have hf := ite_f hf hc
    refine lv_iload_n hx hb dX6_join_15 rfl (lv_at hl 3 rfl) ?_
    refine sc_R hf (rS_S (As := [.int x3]) (rest := []) E (mX6_isOffset l x3) (cwGS 1 okX6_isOffset wmX6_231 hts rfl rfl ⟨Nat.le_of_ble_eq_true rfl, Nat.le_of_ble_eq_true rfl⟩) rfl hl.1 (Nat.le_of_ble_eq_true rfl) dX6_join_16 (aC he (Nat.le_add_right _ _) (Nat.le_add_right _ _)) rfl) (fun y12 hf => ?_)
    refine lv_if_eq (tgt := 43) hx hb dX6_join_19 rfl (fun hc => ?_) (fun hc => ?_)
    · have hf := ite_t hf hc
      refine lv_iconst (v := 0) hx hb dX6_join_43 rfl ?_
      exact wX6_join_44 E hlocks hrt hU hst hZ htab hsh hn hgo hf he hB (lv_sub hl [0, 1, 2, 3, 4] rfl)
    · have hf := ite_f hf hc
      refine lv_iload hx hb dX6_join_22 (lv_at hl 4 rfl) ?_
      refine sc_R hf (rS_S (As := [.int x4]) (rest := []) E (mX6_isOffset l x4) (cwGS 1 okX6_isOffset wmX6_231 hts rfl rfl ⟨Nat.le_of_ble_eq_true rfl, Nat.le_of_ble_eq_true rfl⟩) rfl hl.1 (Nat.le_of_ble_eq_true rfl) dX6_join_24 (aC he (Nat.le_add_right _ _) (Nat.le_add_right _ _)) rfl) (fun y13 hf => ?_)
      refine lv_if_eq (tgt := 43) hx hb dX6_join_27 rfl (fun hc => ?_) (fun hc => ?_)
      · have hf := ite_t hf hc
        refine lv_iconst (v := 0) hx hb dX6_join_43 rfl ?_
        exact wX6_join_44 E hlocks hrt hU hst hZ htab hsh hn hgo hf he hB (lv_sub hl [0, 1, 2, 3, 4] rfl)
      · have hf := ite_f hf hc
        refine lv_iload_n hx hb dX6_join_30 rfl (lv_at hl 3 rfl) ?_
        refine lv_if_ne (tgt := 39) hx hb dX6_join_31 rfl (fun hc => ?_) (fun hc => ?_)
        · have hf := ite_f hf hc
          refine lv_iconst (v := 1) hx hb dX6_join_39 rfl ?_
          refine lv_goto (tgt := 44) hx hb dX6_join_40 rfl ?_
          exact wX6_join_44 E hlocks hrt hU hst hZ htab hsh hn hgo hf he hB (lv_sub hl [0, 1, 2, 3, 4] rfl)
        · have hf := ite_t hf hc
          refine lv_iload hx hb dX6_join_34 (lv_at hl 4 rfl) ?_
          refine lv_if_eq (tgt := 43) hx hb dX6_join_36 rfl (fun hc => ?_) (fun hc => ?_)
          · have hf := ite_t hf hc
            refine lv_iconst (v := 0) hx hb dX6_join_43 rfl ?_
            exact wX6_join_44 E hlocks hrt hU hst hZ htab hsh hn hgo hf he hB (lv_sub hl [0, 1, 2, 3, 4] rfl)
          · have hf := ite_f hf hc
            refine lv_iconst (v := 1) hx hb dX6_join_39 rfl ?_
            refine lv_goto (tgt := 44) hx hb dX6_join_40 rfl ?_
            exact wX6_join_44 E hlocks hrt hU hst hZ htab hsh hn hgo hf he hB (lv_sub hl [0, 1, 2, 3, 4] rfl)
abbrev rmX6_leave (c s : Nat) : Room := { frames := 9, cells := c, slots := s, locals := 221 }
set_option maxRecDepth 100000 in
set_option maxHeartbeats 4000000 in
theorem mX6_leave (l : Launch) (K : Nat) (hst : l.stackTraces = false) (D : va_G) (G : Nat → ClassId) (ad : Nat → Nat) (r : sR) (v : sV) (n : Nat) (x : Int64 × UInt64) (hsh : sSh r) (hn : 172 ≤ n) (x1 : Int32) : sMT sQTi l yX6_leave (.code yX6_leave cX6_leave 3 (some .int) :: wsL_law) rmX6_leave D G ad r v n x [.ref (ad 0), .int x1] (fX6_leave K x1 r v n) := by
  intro sz0 q0 hf
  obtain ⟨fin, he⟩ : ∃ fin, fin = fz n q0 := ⟨_, rfl⟩
  rw [← he]
  refine vx_ofW (cc := cX6_leave) (maxL := 3) (ret := (some .int)) (by decide) rfl ?_
  intro p e s m args below meth c s₁ B hml htab hv
  obtain ⟨hargs, rfl, hU, hP, hD, hZ⟩ := hv
  have hx := B.exec
  have hb := B.bytes
  have hrt := B.returns
  have hts : ∀ w ∈ wsL_law, w.before args s = true := fun w hw => atoms_spec (ws := .code yX6_leave cX6_leave 3 (some .int) :: wsL_law) B.pre w (List.mem_cons_of_mem _ hw)
  have hlocks := B.notSynchronized
  have E : CallFix p m c cX6_leave 3 s args wsL_law RX6 := ⟨hx, hb, hml, findClass_of_methodNamed B.named, hts⟩
  have hB : sB D G (sA ad r n s.heap.size) s.heap ad r v n x s.heap [] := ⟨hP, sD_self hD, va_S.rf⟩
  have hgo : sGo r n ad r n ad := sGo.rf
  have h0 : n ≤ n := Nat.le_refl n
  have hl := lv_entry ([.ref (ad 0), .int x1]) (n := 3) (Nat.le_of_ble_eq_true rfl)
  refine W.eq (g2 := F0 m 0 ((lg_sl ([.ref (ad 0), .int x1]) ++ List.replicate (3 - (lg_sl ([.ref (ad 0), .int x1])).length) Slot.unset).toArray) []) (by rw [hargs]; exact lg_entry_eq _ _ _) ?_
  generalize (lg_sl ([.ref (ad 0), .int x1]) ++ List.replicate (3 - (lg_sl ([.ref (ad 0), .int x1])).length) Slot.unset).toArray = ls at hl ⊢
  have hl : lv_has ls 3 [(0, .ref (ad 0)), (1, .int x1)] := hl
  refine W_00 (n := n) ?_
  have hf := (fX6_leave.eq_1 ..).symm.trans hf
  refine lv_aload_n hx hb dX6_leave_0 rfl (lv_at hl 0 rfl) ?_
  refine lv_iload_n hx hb dX6_leave_1 rfl (lv_at hl 1 rfl) ?_
  refine sc_Tv htab hlocks hB hgo ⟨Nat.le_refl _, Nat.le_refl _⟩ hf he (fun q9 h9 hc9 => rV_T (As := [.int x1]) (rest := []) E hU hZ (fun q h => Or.inr h) hB sc8 (slt hsh hn 0 rfl) rfl (mX6_requireAgent l hst D G ad r _ n x hsh hn x1 _ _ h9) (cwGV 1 okX6_requireAgent wmX6_171 hts rfl rfl ⟨Nat.le_of_ble_eq_true rfl, Nat.le_of_ble_eq_true rfl⟩) rfl hl.1 (Nat.le_of_ble_eq_true rfl) dX6_leave_2 hc9 rfl) (fun rr1 v1 n1 rez hf he ad1 hg1 h0 H locs hB => ?_)
  have hl : lv_has ls 3 [(0, .ref (ad1 0)), (1, .int x1)] := by rw [(hg1.2 (0) (slt hsh hn 0 rfl)).2]; exact hl
  have hn : 172 ≤ n1 := Nat.le_trans hn hg1.1
  have hgo := hgo.trans hg1
  obtain ⟨hsh, hf⟩ := ck_e hf
  refine lv_aload_n hx hb dX6_leave_5 rfl (lv_at hl 0 rfl) ?_
  refine s_getR (k := 2) (t := 20) E hU hB.1 sc8 (slt hsh hn 0 rfl) rfl inlX6 (Nat.le_of_ble_eq_true rfl) rfl rfl wkX6_28 (hsh.1 0 2 20 rfl) dX6_leave_6 ?_
  refine lv_iload_n hx hb dX6_leave_9 rfl (lv_at hl 1 rfl) ?_
  refine sc_R hf (rV_R (As := [.int x1]) (rest := []) E hU hB.1 sc2 (slt hsh hn 20 rfl) rfl (mX0_isMember l D G ad1 rr1 _ n1 x hsh hn 20 1 (Or.inl ⟨rfl, rfl⟩) x1) (cwGV 1 okX0_isMember wmX6_237 hts rfl rfl ⟨Nat.le_of_ble_eq_true rfl, Nat.le_of_ble_eq_true rfl⟩) rfl hl.1 (Nat.le_of_ble_eq_true rfl) dX6_leave_10 (aC he (Nat.le_add_right _ _) (Nat.le_add_right _ _)) rfl) (fun y2 hf => ?_)
  refine lv_if_ne (tgt := 26) hx hb dX6_leave_13 rfl (fun hc => ?_) (fun hc => ?_)
  · have hf := ite_f hf hc
    refine lv_aload_n hx hb dX6_leave_26 rfl (lv_at hl 0 rfl) ?_
    refine s_getR (k := 4) (t := 35) E hU hB.1 sc8 (slt hsh hn 0 rfl) rfl inlX6 (Nat.le_of_ble_eq_true rfl) rfl rfl wkX6_38 (hsh.1 0 4 35 rfl) dX6_leave_27 ?_
    refine lv_aload_n hx hb dX6_leave_30 rfl (lv_at hl 0 rfl) ?_
    refine s_getR (k := 0) (t := 1) E hU hB.1 sc8 (slt hsh hn 0 rfl) rfl inlX6 (Nat.le_of_ble_eq_true rfl) rfl rfl wkX6_12 (hsh.1 0 0 1 rfl) dX6_leave_31 ?_
    refine sc_Av hB (fun q h => Or.inr h) h0 ⟨Nat.le_add_right _ _, Nat.le_add_right _ _⟩ hf he (fun q9 h9 hc9 => rV_A (As := [.ref (ad1 1)]) (rest := []) E hU hB sc5 (slt hsh hn 35 rfl) rfl (mX3_record l K D G ad1 rr1 _ n1 x hsh hn 1 (Or.inl (by decide)) _ _ h9) (cwGV 1 okX3_record wmX6_79 hts rfl rfl ⟨Nat.le_of_ble_eq_true rfl, Nat.le_of_ble_eq_true rfl⟩) rfl hl.1 (Nat.le_of_ble_eq_true rfl) dX6_leave_34 hc9 rfl) (fun rr3 v3 n3 rez hf he ad3 hg3 h0 H locs hB => ?_)
    have hl : lv_has ls 3 [(0, .ref (ad3 0)), (1, .int x1)] := by rw [(hg3.2 (0) (slt hsh hn 0 rfl)).2]; exact hl
    have hn : 172 ≤ n3 := Nat.le_trans hn hg3.1
    have hgo := hgo.trans hg3
    obtain ⟨hsh, hf⟩ := ck_e hf
    refine lv_aload_n hx hb dX6_leave_37 rfl (lv_at hl 0 rfl) ?_
    refine s_getR (k := 0) (t := 1) E hU hB.1 sc8 (slt hsh hn 0 rfl) rfl inlX6 (Nat.le_of_ble_eq_true rfl) rfl rfl wkX6_12 (hsh.1 0 0 1 rfl) dX6_leave_38 ?_
    refine s_getR (k := 8) (t := 10) E hU hB.1 sc7 (slt hsh hn 1 rfl) rfl inlX5 (Nat.le_of_ble_eq_true rfl) rfl rfl wkX6_203 (hsh.1 1 8 10 rfl) dX6_leave_41 ?_
    refine lv_iload_n hx hb dX6_leave_44 rfl (lv_at hl 1 rfl) ?_
    refine s_iald E hU hB.1 (slt hsh hn 10 rfl) rfl dX6_leave_45 hf (fun y4 hf => ?_)
    refine lv_istore_n (lv' := [(2, .int y4), (0, .ref (ad3 0)), (1, .int x1)]) hx hb dX6_leave_46 rfl hl (Nat.le_of_ble_eq_true rfl) rfl (fun ls hl => ?_)
    refine lv_aload_n hx hb dX6_leave_47 rfl (lv_at hl 1 rfl) ?_
    refine s_getR (k := 0) (t := 1) E hU hB.1 sc8 (slt hsh hn 0 rfl) rfl inlX6 (Nat.le_of_ble_eq_true rfl) rfl rfl wkX6_12 (hsh.1 0 0 1 rfl) dX6_leave_48 ?_
    refine s_getR (k := 8) (t := 10) E hU hB.1 sc7 (slt hsh hn 1 rfl) rfl inlX5 (Nat.le_of_ble_eq_true rfl) rfl rfl wkX6_203 (hsh.1 1 8 10 rfl) dX6_leave_51 ?_
    refine lv_iload_n hx hb dX6_leave_54 rfl (lv_at hl 2 rfl) ?_
    refine lv_iconst (v := (-1)) hx hb dX6_leave_55 rfl ?_
    refine s_iast E hU hB (slt hsh hn 10 rfl) rfl dX6_leave_56 hf (fun v5 hf H locs hB => ?_)
    refine lv_iload_n hx hb dX6_leave_57 rfl (lv_at hl 0 rfl) ?_
    exact s_iretT E hrt hlocks hB hgo hf he dX6_leave_58
  · have hf := ite_t hf hc
    exact s_thr E hU hst hZ htab hlocks hB hgo hl.1 sxk3 (List.mem_of_getElem? (i := 8) rfl) dX6_leave_16 dX6_leave_19 dX6_leave_20 dX6_leave_22 dX6_leave_25 (Nat.le_of_ble_eq_true rfl) (Nat.le_of_ble_eq_true rfl) ⟨Nat.le_refl _, Nat.le_refl _⟩ hf he
abbrev rmX6_disorder (c s : Nat) : Room := { frames := 9, cells := c, slots := s, locals := 221 }
set_option maxRecDepth 100000 in
set_option maxHeartbeats 4000000 in
theorem lX6_disorder_33 {K : Nat} {x2 : Int32} {ad0 : Nat → Nat} {r0 : sR} {n0 : Nat} {fin : (Sum Int32 Nat × sR × sV × Nat)} (E : CallFix p m c cX6_disorder 7 s args wsL_law RX6) (hlocks : meth.locks = false) (hrt : meth.sig.returnType = (some .int)) (hU : sU D G s) (hst : l.stackTraces = false) (hZ : sZ (sA ad0 r0 n0 s.heap.size) s) (htab : ∀ x ∈ c.exceptionTable.toList, False) :
    ∀ (k : Nat) (x3 : Int32) (x4 : Int32) (r : sR) (v : sV) (n : Nat) (ad : Nat → Nat) (H : Heap) (locs : List Loc) (ls : Array Slot) (rez : (Sum Int32 Nat × sR × sV × Nat)), sSh r → 172 ≤ n → sGo r0 n0 ad0 r n ad → fx5 (gX6_disorder_33 K x2) k x3 x4 r v n = some rez → fin = fz n rez → sB D G (sA ad0 r0 n0 s.heap.size) s.heap ad r v n x H locs → lv_has ls 7 [(0, .ref (ad 0)), (2, .int x2), (3, .int x3), (4, .int x4)] → W p l e (rmX6_disorder (mcT n0 fin) (msT n0 fin)) s m args below meth c H locs (n - n0) (sz n - sz n0) (vx_MQ below (sQTi D G ad0 r0 n0 x s.heap.size fin) (sXC D G ad0 r0 n0 x s.heap.size fin) args s (mcT n0 fin) (msT n0 fin) (sA ad0 r0 n0 s.heap.size)) (F0 m 33 ls []) := by
  have hx := E.1
  have hb := E.2.1
  have hts := E.2.2.2.2
  intro k
  induction k with
  | zero =>
    intro x3 x4 r v n ad H locs ls rez hsh hn hgo hf he hB hl
    exact fx5_z hf
  | succ k ih =>
    intro x3 x4 r v n ad H locs ls rez hsh hn hgo hf he hB hl
    have h0 := hgo.1
    have hf := (gX6_disorder_33.eq_1 ..).symm.trans hf
    refine lv_iload hx hb dX6_disorder_33 (lv_at hl 3 rfl) ?_
    refine lv_bipush (v := 16) hx hb dX6_disorder_35 rfl ?_
    refine lv_icmp_ge (tgt := 112) hx hb dX6_disorder_37 rfl (fun hc => ?_) (fun hc => ?_)
    · have hf := ite_t hf hc
      refine lv_iload_n hx hb dX6_disorder_112 rfl (lv_at hl 2 rfl) ?_
      exact s_iretT E hrt hlocks hB hgo hf he dX6_disorder_113
    · have hf := ite_f hf hc
      refine lv_iload_n hx hb dX6_disorder_40 rfl (lv_at hl 1 rfl) ?_
      refine lv_iload hx hb dX6_disorder_41 (lv_at hl 3 rfl) ?_
      refine sc_R hf (rS_S (As := [.int x2, .int x4]) (rest := []) E (mX6_isIn l x2 x4) (cwGS 2 okX6_isIn wmX6_255 hts rfl rfl ⟨Nat.le_of_ble_eq_true rfl, Nat.le_of_ble_eq_true rfl⟩) rfl hl.1 (Nat.le_of_ble_eq_true rfl) dX6_disorder_43 (aC he (Nat.le_add_right _ _) (Nat.le_add_right _ _)) rfl) (fun y3 hf => ?_)
      refine lv_if_eq (tgt := 106) hx hb dX6_disorder_46 rfl (fun hc => ?_) (fun hc => ?_)
      · have hf := ite_t hf hc
        obtain ⟨z4, ez9, hf⟩ := nm_x hf
        refine lv_iinc (v := z4) (lv' := [(4, .int z4), (0, .ref (ad 0)), (2, .int x2), (3, .int x3)]) hx hb dX6_disorder_106 hl (k := 3) rfl (by rw [ez9]; rfl) (Nat.le_of_ble_eq_true rfl) rfl (fun ls hl => ?_)
        refine lv_goto (tgt := 33) hx hb dX6_disorder_109 rfl ?_
        exact ih _ _ _ _ _ _ _ _ _ _ hsh hn hgo hf he hB (lv_sub hl [1, 2, 3, 0] rfl)
      · have hf := ite_f hf hc
        refine lv_aload_n hx hb dX6_disorder_49 rfl (lv_at hl 0 rfl) ?_
        refine s_getR (k := 0) (t := 1) E hU hB.1 sc8 (slt hsh hn 0 rfl) rfl inlX6 (Nat.le_of_ble_eq_true rfl) rfl rfl wkX6_12 (hsh.1 0 0 1 rfl) dX6_disorder_50 ?_
        refine s_getR (k := 3) (t := 5) E hU hB.1 sc7 (slt hsh hn 1 rfl) rfl inlX5 (Nat.le_of_ble_eq_true rfl) rfl rfl wkX6_188 (hsh.1 1 3 5 rfl) dX6_disorder_53 ?_
        refine lv_iload hx hb dX6_disorder_56 (lv_at hl 3 rfl) ?_
        refine s_iald E hU hB.1 (slt hsh hn 5 rfl) rfl dX6_disorder_58 hf (fun y5 hf => ?_)
        refine lv_istore (lv' := [(5, .int y5), (0, .ref (ad 0)), (2, .int x2), (3, .int x3), (4, .int x4)]) hx hb dX6_disorder_59 hl (Nat.le_of_ble_eq_true rfl) rfl (fun ls hl => ?_)
        refine lv_aload_n hx hb dX6_disorder_61 rfl (lv_at hl 1 rfl) ?_
        refine s_getR (k := 2) (t := 20) E hU hB.1 sc8 (slt hsh hn 0 rfl) rfl inlX6 (Nat.le_of_ble_eq_true rfl) rfl rfl wkX6_28 (hsh.1 0 2 20 rfl) dX6_disorder_62 ?_
        refine lv_iload hx hb dX6_disorder_65 (lv_at hl 4 rfl) ?_
        refine sc_R hf (rV_R (As := [.int x4]) (rest := []) E hU hB.1 sc2 (slt hsh hn 20 rfl) rfl (mX0_targetOf l D G ad r _ n x hsh hn 20 1 (Or.inl ⟨rfl, rfl⟩) x4) (cwGV 1 okX0_targetOf wmX6_206 hts rfl rfl ⟨Nat.le_of_ble_eq_true rfl, Nat.le_of_ble_eq_true rfl⟩) rfl hl.1 (Nat.le_of_ble_eq_true rfl) dX6_disorder_67 (aC he (Nat.le_add_right _ _) (Nat.le_add_right _ _)) rfl) (fun y6 hf => ?_)
        refine lv_istore (lv' := [(6, .int y6), (5, .int y5), (0, .ref (ad 0)), (2, .int x2), (3, .int x3), (4, .int x4)]) hx hb dX6_disorder_70 hl (Nat.le_of_ble_eq_true rfl) rfl (fun ls hl => ?_)
        refine lv_iload_n hx hb dX6_disorder_72 rfl (lv_at hl 4 rfl) ?_
        refine lv_iload hx hb dX6_disorder_73 (lv_at hl 1 rfl) ?_
        refine sc_R hf (rS_S (As := [.int y5]) (rest := [.int x3]) E (mX6_columnOf l y5) (cwGS 1 okX6_columnOf wmX6_191 hts rfl rfl ⟨Nat.le_of_ble_eq_true rfl, Nat.le_of_ble_eq_true rfl⟩) rfl hl.1 (Nat.le_of_ble_eq_true rfl) dX6_disorder_75 (aC he (Nat.le_add_right _ _) (Nat.le_add_right _ _)) rfl) (fun y7 hf => ?_)
        refine lv_iload hx hb dX6_disorder_78 (lv_at hl 0 rfl) ?_
        refine sc_R hf (rS_S (As := [.int y6]) (rest := [.int y7, .int x3]) E (mX6_columnOf l y6) (cwGS 1 okX6_columnOf wmX6_191 hts rfl rfl ⟨Nat.le_of_ble_eq_true rfl, Nat.le_of_ble_eq_true rfl⟩) rfl hl.1 (Nat.le_of_ble_eq_true rfl) dX6_disorder_80 (aC he (Nat.le_add_right _ _) (Nat.le_add_right _ _)) rfl) (fun y8 hf => ?_)
        refine lv_isub hx hb dX6_disorder_83 ?_
        refine va_mabs hx hb (E.2.2.1.trans hl.1.symm) E.2.2.2.1 (hts _ wmX6_259) (hts _ wst_abs) (hts _ wini_math) (hts _ wcd_abs) (Nat.le_of_ble_eq_true rfl) (Nat.le_of_ble_eq_true rfl) (aT he).1 (aT he).2 dX6_disorder_84 ?_
        refine lv_iadd hx hb dX6_disorder_87 ?_
        refine s_nm hf (fun z9 hf => ?_)
        refine lv_istore_n (lv' := [(3, .int z9), (6, .int y6), (5, .int y5), (0, .ref (ad 0)), (2, .int x2), (4, .int x4)]) hx hb dX6_disorder_88 rfl hl (Nat.le_of_ble_eq_true rfl) rfl (fun ls hl => ?_)
        refine lv_iload_n hx hb dX6_disorder_89 rfl (lv_at hl 0 rfl) ?_
        refine lv_iload hx hb dX6_disorder_90 (lv_at hl 2 rfl) ?_
        refine sc_R hf (rS_S (As := [.int y5]) (rest := [.int z9]) E (mX6_rowOf l y5) (cwGS 1 okX6_rowOf wmX6_194 hts rfl rfl ⟨Nat.le_of_ble_eq_true rfl, Nat.le_of_ble_eq_true rfl⟩) rfl hl.1 (Nat.le_of_ble_eq_true rfl) dX6_disorder_92 (aC he (Nat.le_add_right _ _) (Nat.le_add_right _ _)) rfl) (fun y10 hf => ?_)
        refine lv_iload hx hb dX6_disorder_95 (lv_at hl 1 rfl) ?_
        refine sc_R hf (rS_S (As := [.int y6]) (rest := [.int y10, .int z9]) E (mX6_rowOf l y6) (cwGS 1 okX6_rowOf wmX6_194 hts rfl rfl ⟨Nat.le_of_ble_eq_true rfl, Nat.le_of_ble_eq_true rfl⟩) rfl hl.1 (Nat.le_of_ble_eq_true rfl) dX6_disorder_97 (aC he (Nat.le_add_right _ _) (Nat.le_add_right _ _)) rfl) (fun y11 hf => ?_)
        refine lv_isub hx hb dX6_disorder_100 ?_
        refine va_mabs hx hb (E.2.2.1.trans hl.1.symm) E.2.2.2.1 (hts _ wmX6_259) (hts _ wst_abs) (hts _ wini_math) (hts _ wcd_abs) (Nat.le_of_ble_eq_true rfl) (Nat.le_of_ble_eq_true rfl) (aT he).1 (aT he).2 dX6_disorder_101 ?_
        refine lv_iadd hx hb dX6_disorder_104 ?_
        refine s_nm hf (fun z12 hf => ?_)
        refine lv_istore_n (lv' := [(3, .int z12), (6, .int y6), (5, .int y5), (0, .ref (ad 0)), (2, .int x2), (4, .int x4)]) hx hb dX6_disorder_105 rfl hl (Nat.le_of_ble_eq_true rfl) rfl (fun ls hl => ?_)
        obtain ⟨z13, ez9, hf⟩ := nm_x hf
        refine lv_iinc (v := z13) (lv' := [(4, .int z13), (3, .int z12), (6, .int y6), (5, .int y5), (0, .ref (ad 0)), (2, .int x2)]) hx hb dX6_disorder_106 hl (k := 5) rfl (by rw [ez9]; rfl) (Nat.le_of_ble_eq_true rfl) rfl (fun ls hl => ?_)
        refine lv_goto (tgt := 33) hx hb dX6_disorder_109 rfl ?_
        exact ih _ _ _ _ _ _ _ _ _ _ hsh hn hgo hf he hB (lv_sub hl [4, 5, 1, 0] rfl)
set_option maxRecDepth 100000 in
set_option maxHeartbeats 4000000 in
theorem mX6_disorder (l : Launch) (K : Nat) (hst : l.stackTraces = false) (D : va_G) (G : Nat → ClassId) (ad : Nat → Nat) (r : sR) (v : sV) (n : Nat) (x : Int64 × UInt64) (hsh : sSh r) (hn : 172 ≤ n) (x1 : Int32) : sMT sQTi l yX6_disorder (.code yX6_disorder cX6_disorder 7 (some .int) :: wsL_law) rmX6_disorder D G ad r v n x [.ref (ad 0), .int x1] (fX6_disorder K x1 r v n) := by
  intro sz0 q0 hf
  obtain ⟨fin, he⟩ : ∃ fin, fin = fz n q0 := ⟨_, rfl⟩
  rw [← he]
  refine vx_ofW (cc := cX6_disorder) (maxL := 7) (ret := (some .int)) (by decide) rfl ?_
  intro p e s m args below meth c s₁ B hml htab hv
  obtain ⟨hargs, rfl, hU, hP, hD, hZ⟩ := hv
  have hx := B.exec
  have hb := B.bytes
  have hrt := B.returns
  have hts : ∀ w ∈ wsL_law, w.before args s = true := fun w hw => atoms_spec (ws := .code yX6_disorder cX6_disorder 7 (some .int) :: wsL_law) B.pre w (List.mem_cons_of_mem _ hw)
  have hlocks := B.notSynchronized
  have E : CallFix p m c cX6_disorder 7 s args wsL_law RX6 := ⟨hx, hb, hml, findClass_of_methodNamed B.named, hts⟩
  have hB : sB D G (sA ad r n s.heap.size) s.heap ad r v n x s.heap [] := ⟨hP, sD_self hD, va_S.rf⟩
  have hgo : sGo r n ad r n ad := sGo.rf
  have h0 : n ≤ n := Nat.le_refl n
  have hl := lv_entry ([.ref (ad 0), .int x1]) (n := 7) (Nat.le_of_ble_eq_true rfl)
  refine W.eq (g2 := F0 m 0 ((lg_sl ([.ref (ad 0), .int x1]) ++ List.replicate (7 - (lg_sl ([.ref (ad 0), .int x1])).length) Slot.unset).toArray) []) (by rw [hargs]; exact lg_entry_eq _ _ _) ?_
  generalize (lg_sl ([.ref (ad 0), .int x1]) ++ List.replicate (7 - (lg_sl ([.ref (ad 0), .int x1])).length) Slot.unset).toArray = ls at hl ⊢
  have hl : lv_has ls 7 [(0, .ref (ad 0)), (1, .int x1)] := hl
  refine W_00 (n := n) ?_
  have hf := (fX6_disorder.eq_1 ..).symm.trans hf
  refine lv_aload_n hx hb dX6_disorder_0 rfl (lv_at hl 0 rfl) ?_
  refine lv_iload_n hx hb dX6_disorder_1 rfl (lv_at hl 1 rfl) ?_
  refine sc_Tv htab hlocks hB hgo ⟨Nat.le_refl _, Nat.le_refl _⟩ hf he (fun q9 h9 hc9 => rV_T (As := [.int x1]) (rest := []) E hU hZ (fun q h => Or.inr h) hB sc8 (slt hsh hn 0 rfl) rfl (mX6_requireAgent l hst D G ad r _ n x hsh hn x1 _ _ h9) (cwGV 1 okX6_requireAgent wmX6_171 hts rfl rfl ⟨Nat.le_of_ble_eq_true rfl, Nat.le_of_ble_eq_true rfl⟩) rfl hl.1 (Nat.le_of_ble_eq_true rfl) dX6_disorder_2 hc9 rfl) (fun rr1 v1 n1 rez hf he ad1 hg1 h0 H locs hB => ?_)
  have hl : lv_has ls 7 [(0, .ref (ad1 0)), (1, .int x1)] := by rw [(hg1.2 (0) (slt hsh hn 0 rfl)).2]; exact hl
  have hn : 172 ≤ n1 := Nat.le_trans hn hg1.1
  have hgo := hgo.trans hg1
  obtain ⟨hsh, hf⟩ := ck_e hf
  refine lv_aload_n hx hb dX6_disorder_5 rfl (lv_at hl 0 rfl) ?_
  refine s_getR (k := 2) (t := 20) E hU hB.1 sc8 (slt hsh hn 0 rfl) rfl inlX6 (Nat.le_of_ble_eq_true rfl) rfl rfl wkX6_28 (hsh.1 0 2 20 rfl) dX6_disorder_6 ?_
  refine lv_iload_n hx hb dX6_disorder_9 rfl (lv_at hl 1 rfl) ?_
  refine sc_R hf (rV_R (As := [.int x1]) (rest := []) E hU hB.1 sc2 (slt hsh hn 20 rfl) rfl (mX0_membersOf l K D G ad1 rr1 _ n1 x hsh hn 20 1 (Or.inl ⟨rfl, rfl⟩) x1) (cwGV 1 okX0_membersOf wmX6_248 hts rfl rfl ⟨Nat.le_of_ble_eq_true rfl, Nat.le_of_ble_eq_true rfl⟩) rfl hl.1 (Nat.le_of_ble_eq_true rfl) dX6_disorder_10 (aC he (Nat.le_add_right _ _) (Nat.le_add_right _ _)) rfl) (fun y2 hf => ?_)
  refine lv_istore_n (lv' := [(2, .int y2), (0, .ref (ad1 0)), (1, .int x1)]) hx hb dX6_disorder_13 rfl hl (Nat.le_of_ble_eq_true rfl) rfl (fun ls hl => ?_)
  refine lv_iload_n hx hb dX6_disorder_14 rfl (lv_at hl 0 rfl) ?_
  refine lv_if_ne (tgt := 28) hx hb dX6_disorder_15 rfl (fun hc => ?_) (fun hc => ?_)
  · have hf := ite_f hf hc
    refine lv_iconst (v := 0) hx hb dX6_disorder_28 rfl ?_
    refine lv_istore_n (lv' := [(3, .int 0), (2, .int y2), (0, .ref (ad1 0)), (1, .int x1)]) hx hb dX6_disorder_29 rfl hl (Nat.le_of_ble_eq_true rfl) rfl (fun ls hl => ?_)
    refine lv_iconst (v := 0) hx hb dX6_disorder_30 rfl ?_
    refine lv_istore (lv' := [(4, .int 0), (3, .int 0), (2, .int y2), (0, .ref (ad1 0)), (1, .int x1)]) hx hb dX6_disorder_31 hl (Nat.le_of_ble_eq_true rfl) rfl (fun ls hl => ?_)
    exact lX6_disorder_33 E hlocks hrt hU hst hZ htab _ _ _ _ _ _ _ _ _ _ _ hsh hn hgo hf he hB (lv_sub hl [3, 2, 1, 0] rfl)
  · have hf := ite_t hf hc
    exact s_thr E hU hst hZ htab hlocks hB hgo hl.1 sxk3 (List.mem_of_getElem? (i := 9) rfl) dX6_disorder_18 dX6_disorder_21 dX6_disorder_22 dX6_disorder_24 dX6_disorder_27 (Nat.le_of_ble_eq_true rfl) (Nat.le_of_ble_eq_true rfl) ⟨Nat.le_refl _, Nat.le_refl _⟩ hf he
end
