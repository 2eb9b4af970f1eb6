section
variable {p : Program} {l : Launch} {e : Env} {s : State} {m : MethodId} {args : Array Value} {below : List Frame} {meth : Method} {c : Code}
variable {D : va_G} {G : Nat → ClassId} {ad : Nat → Nat} {r : sR} {n : Nat} {x : Int64 × UInt64}
abbrev rmX7_jams : Room := { frames := 5, cells := 0, slots := 0, locals := 114 }
set_option maxRecDepth 100000 in
set_option maxHeartbeats 4000000 in
theorem mX7_jams (l : Launch) (K : Nat) (D : va_G) (G : Nat → ClassId) (ad : Nat → Nat) (r : sR) (v : sV) (n : Nat) (x : Int64 × UInt64) (hsh : sSh r) (hn : 172 ≤ n) : sMI l yX7_jams (.code yX7_jams cX7_jams 1 (some .int) :: wsL_law) rmX7_jams D G ad r v n x [.ref (ad 157)] (fX7_jams K v) := by
  intro sz res hf
  refine Met.ofW (cc := cX7_jams) (maxL := 1) (ret := (some .int)) (by decide) rfl ?_
  intro p e s m args below meth c s₁ B hml hv
  obtain ⟨rfl, rfl, hU, hP, hD⟩ := hv
  have hx := B.exec
  have hb := B.bytes
  have hrt := B.returns
  have hts : ∀ w ∈ wsL_law, w.before _ s = true := fun w hw => atoms_spec (ws := .code yX7_jams cX7_jams 1 (some .int) :: wsL_law) B.pre w (List.mem_cons_of_mem _ hw)
  have hlocks := B.notSynchronized
  have E : CallFix p m c cX7_jams 1 s ([.ref (ad 157)] : List Value).toArray wsL_law RX7 := ⟨hx, hb, hml, findClass_of_methodNamed B.named, hts⟩
  have hB : sB D G (sA ad r n s.heap.size) s.heap ad r v n x s.heap [] := ⟨hP, sD_self hD, va_S.rf⟩
  have hl := lv_entry ([.ref (ad 157)]) (n := 1) (Nat.le_of_ble_eq_true rfl)
  rw [lg_entry_eq]
  generalize (lg_sl ([.ref (ad 157)]) ++ List.replicate (1 - (lg_sl ([.ref (ad 157)])).length) Slot.unset).toArray = ls at hl ⊢
  have hl : lv_has ls 1 [(0, .ref (ad 157))] := hl
  have hf := (fX7_jams.eq_1 ..).symm.trans hf
  refine lv_aload_n hx hb dX7_jams_0 rfl (lv_at hl 0 rfl) ?_
  refine lv_iconst (v := 0) hx hb dX7_jams_1 rfl ?_
  refine s_putI (k := 6) (ty1 := .int) E hU hB sc9 (slt hsh hn 157 rfl) rfl inlX7 (Nat.le_of_ble_eq_true rfl) rfl rfl wkX7_47 rfl rfl rfl rfl dX7_jams_2 hf (fun v1 hf H locs hB => ?_)
  refine lv_aload_n hx hb dX7_jams_5 rfl (lv_at hl 0 rfl) ?_
  refine lv_iconst (v := (-1)) hx hb dX7_jams_6 rfl ?_
  refine sc_R hf (rV_R (As := [.int (-1)]) (rest := []) E hU hB.1 sc9 (slt hsh hn 157 rfl) rfl (mX7_jamOf l K D G ad r _ n x hsh hn (-1)) (cwGV 1 okX7_jamOf wmX7_180 hts rfl rfl ⟨Nat.le_of_ble_eq_true rfl, Nat.le_of_ble_eq_true rfl⟩) rfl hl.1 (Nat.le_of_ble_eq_true rfl) dX7_jams_7 ⟨Nat.zero_le _, Nat.zero_le _⟩ rfl) (fun y2 hf => ?_)
  exact s_iretW E hrt hlocks hB hf dX7_jams_10
abbrev rmX7_freeAround : Room := { frames := 4, cells := 0, slots := 0, locals := 86 }
set_option maxRecDepth 100000 in
set_option maxHeartbeats 4000000 in
theorem wX7_freeAround_73 {K : Nat} {x1 : Int32} {x2 : Int32} {x3 : Int32} {x4 : Int32} {k4 : Int32 → Int32 → Option Int32} {res : Int32} (E : CallFix p m c cX7_freeAround 6 s args wsL_law RX7) (hlocks : meth.locks = false) (hrt : meth.sig.returnType = (some .int)) (hU : sU D G s) (hsh : sSh r) (hn : 172 ≤ n) {v : sV} (hP : va_P D vwCl (sWl G ad r v n x) s.heap) (ih4 : ∀ (x2 : Int32) (x3 : Int32) (ls : Array Slot), k4 x2 x3 = some res → lv_has ls 6 [(0, .ref (ad 157)), (1, .int x1), (2, .int x2), (3, .int x3)] → W p l e rmX7_freeAround s m args below meth c s.heap [] 0 0 (MQ below (vp_Si (fun q => q = res)) args s 0 0 (fun _ => False)) (F0 m 4 ls [])) {ls : Array Slot} (hf : bX7_freeAround_73 K k4 x1 x2 x3 x4 v = some res) (hl : lv_has ls 6 [(0, .ref (ad 157)), (1, .int x1), (2, .int x2), (3, .int x3), (4, .int x4)]) :
    W p l e rmX7_freeAround s m args below meth c s.heap [] 0 0 (MQ below (vp_Si (fun q => q = res)) args s 0 0 (fun _ => False)) (F0 m 73 ls []) := by
  have hx := E.1
  have hb := E.2.1
  have hts := E.2.2.2.2
  have hf := (bX7_freeAround_73.eq_1 ..).symm.trans hf
  refine lv_iload_n hx hb dX7_freeAround_73 rfl (lv_at hl 2 rfl) ?_
  refine lv_iload hx hb dX7_freeAround_74 (lv_at hl 4 rfl) ?_
  refine lv_if_eq (tgt := 83) hx hb dX7_freeAround_76 rfl (fun hc => ?_) (fun hc => ?_)
  · have hf := ite_t hf hc
    refine lv_iconst (v := 0) hx hb dX7_freeAround_83 rfl ?_
    refine lv_iadd hx hb dX7_freeAround_84 ?_
    refine s_nm hf (fun z1 hf => ?_)
    refine lv_istore_n (lv' := [(2, .int z1), (0, .ref (ad 157)), (1, .int x1), (3, .int x3), (4, .int x4)]) hx hb dX7_freeAround_85 rfl hl (Nat.le_of_ble_eq_true rfl) rfl (fun ls hl => ?_)
    obtain ⟨z2, ez9, hf⟩ := nm_x hf
    refine lv_iinc (v := z2) (lv' := [(3, .int z2), (2, .int z1), (0, .ref (ad 157)), (1, .int x1), (4, .int x4)]) hx hb dX7_freeAround_86 hl (k := 3) rfl (by rw [ez9]; rfl) (Nat.le_of_ble_eq_true rfl) rfl (fun ls hl => ?_)
    refine lv_goto (tgt := 4) hx hb dX7_freeAround_89 rfl ?_
    exact ih4 _ _ _ hf (lv_sub hl [2, 3, 1, 0] rfl)
  · have hf := ite_f hf hc
    refine lv_iconst (v := 1) hx hb dX7_freeAround_79 rfl ?_
    refine lv_goto (tgt := 84) hx hb dX7_freeAround_80 rfl ?_
    refine lv_iadd hx hb dX7_freeAround_84 ?_
    refine s_nm hf (fun z3 hf => ?_)
    refine lv_istore_n (lv' := [(2, .int z3), (0, .ref (ad 157)), (1, .int x1), (3, .int x3), (4, .int x4)]) hx hb dX7_freeAround_85 rfl hl (Nat.le_of_ble_eq_true rfl) rfl (fun ls hl => ?_)
    obtain ⟨z4, ez9, hf⟩ := nm_x hf
    refine lv_iinc (v := z4) (lv' := [(3, .int z4), (2, .int z3), (0, .ref (ad 157)), (1, .int x1), (4, .int x4)]) hx hb dX7_freeAround_86 hl (k := 3) rfl (by rw [ez9]; rfl) (Nat.le_of_ble_eq_true rfl) rfl (fun ls hl => ?_)
    refine lv_goto (tgt := 4) hx hb dX7_freeAround_89 rfl ?_
    exact ih4 _ _ _ hf (lv_sub hl [2, 3, 1, 0] rfl)
set_option maxRecDepth 100000 in
set_option maxHeartbeats 4000000 in
theorem lX7_freeAround_17 {K : Nat} {x1 : Int32} {x2 : Int32} {x3 : Int32} {k4 : Int32 → Int32 → Option Int32} {res : Int32} (E : CallFix p m c cX7_freeAround 6 s args wsL_law RX7) (hlocks : meth.locks = false) (hrt : meth.sig.returnType = (some .int)) (hU : sU D G s) (hsh : sSh r) (hn : 172 ≤ n) {v : sV} (hP : va_P D vwCl (sWl G ad r v n x) s.heap) (ih4 : ∀ (x2 : Int32) (x3 : Int32) (ls : Array Slot), k4 x2 x3 = some res → lv_has ls 6 [(0, .ref (ad 157)), (1, .int x1), (2, .int x2), (3, .int x3)] → W p l e rmX7_freeAround s m args below meth c s.heap [] 0 0 (MQ below (vp_Si (fun q => q = res)) args s 0 0 (fun _ => False)) (F0 m 4 ls [])) :
    ∀ (k : Nat) (x4 : Int32) (x5 : Int32) (ls : Array Slot), fx2 (gX7_freeAround_17 K k4 x1 x2 x3 v) k x4 x5 = some res → lv_has ls 6 [(0, .ref (ad 157)), (1, .int x1), (2, .int x2), (3, .int x3), (4, .int x4), (5, .int x5)] → W p l e rmX7_freeAround s m args below meth c s.heap [] 0 0 (MQ below (vp_Si (fun q => q = res)) args s 0 0 (fun _ => False)) (F0 m 17 ls []) := by
  have hx := E.1
  have hb := E.2.1
  have hts := E.2.2.2.2
  intro k
  induction k with
  | zero =>
    intro x4 x5 ls hf hl
    exact fx2_z hf
  | succ k ih =>
    intro x4 x5 ls hf hl
    have hf := (gX7_freeAround_17.eq_1 ..).symm.trans hf
    refine lv_iload hx hb dX7_freeAround_17 (lv_at hl 5 rfl) ?_
    refine lv_bipush (v := 16) hx hb dX7_freeAround_19 rfl ?_
    refine lv_icmp_ge (tgt := 73) hx hb dX7_freeAround_21 rfl (fun hc => ?_) (fun hc => ?_)
    · have hf := ite_t hf hc
      exact wX7_freeAround_73 E hlocks hrt hU hsh hn hP ih4 hf (lv_sub hl [0, 1, 2, 3, 4] rfl)
    · have hf := ite_f hf hc
      refine lv_aload_n hx hb dX7_freeAround_24 rfl (lv_at hl 0 rfl) ?_
      refine lv_iload_n hx hb dX7_freeAround_25 rfl (lv_at hl 3 rfl) ?_
      refine sc_R hf (rV_R (As := [.int x3]) (rest := []) E hU hP sc9 (slt hsh hn 157 rfl) rfl (mX7_isEmpty l K D G ad r _ n x hsh hn x3) (cwGV 1 okX7_isEmpty wmX7_150 hts rfl rfl ⟨Nat.le_of_ble_eq_true rfl, Nat.le_of_ble_eq_true rfl⟩) rfl hl.1 (Nat.le_of_ble_eq_true rfl) dX7_freeAround_26 ⟨Nat.zero_le _, Nat.zero_le _⟩ rfl) (fun y5 hf => ?_)
      refine lv_if_eq (tgt := 73) hx hb dX7_freeAround_29 rfl (fun hc => ?_) (fun hc => ?_)
      · have hf := ite_t hf hc
        exact wX7_freeAround_73 E hlocks hrt hU hsh hn hP ih4 hf (lv_sub hl [0, 1, 2, 3, 4] rfl)
      · have hf := ite_f hf hc
        refine lv_iload hx hb dX7_freeAround_32 (lv_at hl 4 rfl) ?_
        refine lv_iload_n hx hb dX7_freeAround_34 rfl (lv_at hl 1 rfl) ?_
        refine lv_iload hx hb dX7_freeAround_35 (lv_at hl 5 rfl) ?_
        refine lv_ishr hx hb dX7_freeAround_37 ?_
        refine lv_iconst (v := 1) hx hb dX7_freeAround_38 rfl ?_
        refine lv_iand hx hb dX7_freeAround_39 ?_
        refine lv_iconst (v := 1) hx hb dX7_freeAround_40 rfl ?_
        refine lv_icmp_ne (tgt := 63) hx hb dX7_freeAround_41 rfl (fun hc => ?_) (fun hc => ?_)
        · have hf := ite_f hf hc
          refine lv_iconst (v := 0) hx hb dX7_freeAround_63 rfl ?_
          refine lv_ior hx hb dX7_freeAround_64 ?_
          refine s_nm hf (fun z6 hf => ?_)
          refine lv_istore (lv' := [(4, .int z6), (0, .ref (ad 157)), (1, .int x1), (2, .int x2), (3, .int x3), (5, .int x5)]) hx hb dX7_freeAround_65 hl (Nat.le_of_ble_eq_true rfl) rfl (fun ls hl => ?_)
          obtain ⟨z7, ez9, hf⟩ := nm_x hf
          refine lv_iinc (v := z7) (lv' := [(5, .int z7), (4, .int z6), (0, .ref (ad 157)), (1, .int x1), (2, .int x2), (3, .int x3)]) hx hb dX7_freeAround_67 hl (k := 5) rfl (by rw [ez9]; rfl) (Nat.le_of_ble_eq_true rfl) rfl (fun ls hl => ?_)
          refine lv_goto (tgt := 17) hx hb dX7_freeAround_70 rfl ?_
          exact ih _ _ _ hf (lv_sub hl [2, 3, 4, 5, 1, 0] rfl)
        · have hf := ite_t hf hc
          refine lv_aload_n hx hb dX7_freeAround_44 rfl (lv_at hl 0 rfl) ?_
          refine lv_iload hx hb dX7_freeAround_45 (lv_at hl 5 rfl) ?_
          refine lv_iconst (v := 1) hx hb dX7_freeAround_47 rfl ?_
          refine sc_R hf (rV_R (As := [.int x5, .int 1]) (rest := [.int x4]) E hU hP sc9 (slt hsh hn 157 rfl) rfl (mX7_at l D G ad r _ n x hsh hn x5 1) (cwGV 2 okX7_at wmX7_105 hts rfl rfl ⟨Nat.le_of_ble_eq_true rfl, Nat.le_of_ble_eq_true rfl⟩) rfl hl.1 (Nat.le_of_ble_eq_true rfl) dX7_freeAround_48 ⟨Nat.zero_le _, Nat.zero_le _⟩ rfl) (fun y8 hf => ?_)
          refine lv_iload_n hx hb dX7_freeAround_51 rfl (lv_at hl 3 rfl) ?_
          refine sc_R hf (rS_S (As := [.int y8, .int x3]) (rest := [.int x4]) E (mX7_apart l y8 x3) (cwGS 2 okX7_apart wmX7_143 hts rfl rfl ⟨Nat.le_of_ble_eq_true rfl, Nat.le_of_ble_eq_true rfl⟩) rfl hl.1 (Nat.le_of_ble_eq_true rfl) dX7_freeAround_52 ⟨Nat.zero_le _, Nat.zero_le _⟩ rfl) (fun y9 hf => ?_)
          refine lv_iconst (v := 1) hx hb dX7_freeAround_55 rfl ?_
          refine lv_icmp_ne (tgt := 63) hx hb dX7_freeAround_56 rfl (fun hc => ?_) (fun hc => ?_)
          · have hf := ite_f hf hc
            refine lv_iconst (v := 0) hx hb dX7_freeAround_63 rfl ?_
            refine lv_ior hx hb dX7_freeAround_64 ?_
            refine s_nm hf (fun z10 hf => ?_)
            refine lv_istore (lv' := [(4, .int z10), (0, .ref (ad 157)), (1, .int x1), (2, .int x2), (3, .int x3), (5, .int x5)]) hx hb dX7_freeAround_65 hl (Nat.le_of_ble_eq_true rfl) rfl (fun ls hl => ?_)
            obtain ⟨z11, ez9, hf⟩ := nm_x hf
            refine lv_iinc (v := z11) (lv' := [(5, .int z11), (4, .int z10), (0, .ref (ad 157)), (1, .int x1), (2, .int x2), (3, .int x3)]) hx hb dX7_freeAround_67 hl (k := 5) rfl (by rw [ez9]; rfl) (Nat.le_of_ble_eq_true rfl) rfl (fun ls hl => ?_)
            refine lv_goto (tgt := 17) hx hb dX7_freeAround_70 rfl ?_
            exact ih _ _ _ hf (lv_sub hl [2, 3, 4, 5, 1, 0] rfl)
          · have hf := ite_t hf hc
            refine lv_iconst (v := 1) hx hb dX7_freeAround_59 rfl ?_
            refine lv_goto (tgt := 64) hx hb dX7_freeAround_60 rfl ?_
            refine lv_ior hx hb dX7_freeAround_64 ?_
            refine s_nm hf (fun z12 hf => ?_)
            refine lv_istore (lv' := [(4, .int z12), (0, .ref (ad 157)), (1, .int x1), (2, .int x2), (3, .int x3), (5, .int x5)]) hx hb dX7_freeAround_65 hl (Nat.le_of_ble_eq_true rfl) rfl (fun ls hl => ?_)
            obtain ⟨z13, ez9, hf⟩ := nm_x hf
            refine lv_iinc (v := z13) (lv' := [(5, .int z13), (4, .int z12), (0, .ref (ad 157)), (1, .int x1), (2, .int x2), (3, .int x3)]) hx hb dX7_freeAround_67 hl (k := 5) rfl (by rw [ez9]; rfl) (Nat.le_of_ble_eq_true rfl) rfl (fun ls hl => ?_)
            refine lv_goto (tgt := 17) hx hb dX7_freeAround_70 rfl ?_
            exact ih _ _ _ hf (lv_sub hl [2, 3, 4, 5, 1, 0] rfl)
set_option maxRecDepth 100000 in
set_option maxHeartbeats 4000000 in
theorem lX7_freeAround_4 {K : Nat} {x1 : Int32} {res : Int32} (E : CallFix p m c cX7_freeAround 6 s args wsL_law RX7) (hlocks : meth.locks = false) (hrt : meth.sig.returnType = (some .int)) (hU : sU D G s) (hsh : sSh r) (hn : 172 ≤ n) {v : sV} (hP : va_P D vwCl (sWl G ad r v n x) s.heap) :
    ∀ (k : Nat) (x2 : Int32) (x3 : Int32) (ls : Array Slot), fx2 (gX7_freeAround_4 K x1 v) k x2 x3 = some res → lv_has ls 6 [(0, .ref (ad 157)), (1, .int x1), (2, .int x2), (3, .int x3)] → W p l e rmX7_freeAround s m args below meth c s.heap [] 0 0 (MQ below (vp_Si (fun q => q = res)) args s 0 0 (fun _ => False)) (F0 m 4 ls []) := by
  have hx := E.1
  have hb := E.2.1
  have hts := E.2.2.2.2
  intro k
  induction k with
  | zero =>
    intro x2 x3 ls hf hl
    exact fx2_z hf
  | succ k ih =>
    intro x2 x3 ls hf hl
    have hf := (gX7_freeAround_4.eq_1 ..).symm.trans hf
    refine lv_iload_n hx hb dX7_freeAround_4 rfl (lv_at hl 3 rfl) ?_
    refine lv_sipush (v := 140) hx hb dX7_freeAround_5 rfl ?_
    refine lv_icmp_ge (tgt := 92) hx hb dX7_freeAround_8 rfl (fun hc => ?_) (fun hc => ?_)
    · have hf := ite_t hf hc
      refine lv_iload_n hx hb dX7_freeAround_92 rfl (lv_at hl 2 rfl) ?_
      exact s_iretR E hrt hlocks hf dX7_freeAround_93
    · have hf := ite_f hf hc
      refine lv_iconst (v := 0) hx hb dX7_freeAround_11 rfl ?_
      refine lv_istore (lv' := [(4, .int 0), (0, .ref (ad 157)), (1, .int x1), (2, .int x2), (3, .int x3)]) hx hb dX7_freeAround_12 hl (Nat.le_of_ble_eq_true rfl) rfl (fun ls hl => ?_)
      refine lv_iconst (v := 0) hx hb dX7_freeAround_14 rfl ?_
      refine lv_istore (lv' := [(5, .int 0), (4, .int 0), (0, .ref (ad 157)), (1, .int x1), (2, .int x2), (3, .int x3)]) hx hb dX7_freeAround_15 hl (Nat.le_of_ble_eq_true rfl) rfl (fun ls hl => ?_)
      exact lX7_freeAround_17 E hlocks hrt hU hsh hn hP ih _ _ _ _ hf (lv_sub hl [2, 3, 4, 5, 1, 0] rfl)
set_option maxRecDepth 100000 in
set_option maxHeartbeats 4000000 in
theorem mX7_freeAround (l : Launch) (K : Nat) (D : va_G) (G : Nat → ClassId) (ad : Nat → Nat) (r : sR) (v : sV) (n : Nat) (x : Int64 × UInt64) (hsh : sSh r) (hn : 172 ≤ n) (x1 : Int32) : sMR l yX7_freeAround (.code yX7_freeAround cX7_freeAround 6 (some .int) :: wsL_law) rmX7_freeAround D G ad r v n x [.ref (ad 157), .int x1] (fX7_freeAround K x1 v) := by
  intro res hf
  refine Met.ofW (cc := cX7_freeAround) (maxL := 6) (ret := (some .int)) (by decide) rfl ?_
  intro p e s m args below meth c s₁ B hml hv
  obtain ⟨rfl, hU, hP⟩ := hv
  have hx := B.exec
  have hb := B.bytes
  have hrt := B.returns
  have hts : ∀ w ∈ wsL_law, w.before _ s = true := fun w hw => atoms_spec (ws := .code yX7_freeAround cX7_freeAround 6 (some .int) :: wsL_law) B.pre w (List.mem_cons_of_mem _ hw)
  have hlocks := B.notSynchronized
  have E : CallFix p m c cX7_freeAround 6 s ([.ref (ad 157), .int x1] : List Value).toArray wsL_law RX7 := ⟨hx, hb, hml, findClass_of_methodNamed B.named, hts⟩
  have hl := lv_entry ([.ref (ad 157), .int x1]) (n := 6) (Nat.le_of_ble_eq_true rfl)
  rw [lg_entry_eq]
  generalize (lg_sl ([.ref (ad 157), .int x1]) ++ List.replicate (6 - (lg_sl ([.ref (ad 157), .int x1])).length) Slot.unset).toArray = ls at hl ⊢
  have hl : lv_has ls 6 [(0, .ref (ad 157)), (1, .int x1)] := hl
  have hf := (fX7_freeAround.eq_1 ..).symm.trans hf
  refine lv_iconst (v := 0) hx hb dX7_freeAround_0 rfl ?_
  refine lv_istore_n (lv' := [(2, .int 0), (0, .ref (ad 157)), (1, .int x1)]) hx hb dX7_freeAround_1 rfl hl (Nat.le_of_ble_eq_true rfl) rfl (fun ls hl => ?_)
  refine lv_iconst (v := 0) hx hb dX7_freeAround_2 rfl ?_
  refine lv_istore_n (lv' := [(3, .int 0), (2, .int 0), (0, .ref (ad 157)), (1, .int x1)]) hx hb dX7_freeAround_3 rfl hl (Nat.le_of_ble_eq_true rfl) rfl (fun ls hl => ?_)
  exact lX7_freeAround_4 E hlocks hrt hU hsh hn hP _ _ _ _ hf (lv_sub hl [2, 3, 1, 0] rfl)
abbrev rmX7_waitsOf : Room := { frames := 1, cells := 0, slots := 0, locals := 22 }
set_option maxRecDepth 100000 in
set_option maxHeartbeats 4000000 in
theorem lX7_waitsOf_4 {K : Nat} {x1 : Int32} {res : Int32} (E : CallFix p m c cX7_waitsOf 4 s args wsL_law RX7) (hlocks : meth.locks = false) (hrt : meth.sig.returnType = (some .int)) (hU : sU D G s) (hsh : sSh r) (hn : 172 ≤ n) {v : sV} (hP : va_P D vwCl (sWl G ad r v n x) s.heap) :
    ∀ (k : Nat) (x2 : Int32) (x3 : Int32) (ls : Array Slot), fx2 (gX7_waitsOf_4 K x1 v) k x2 x3 = some res → lv_has ls 4 [(0, .ref (ad 157)), (1, .int x1), (2, .int x2), (3, .int x3)] → W p l e rmX7_waitsOf s m args below meth c s.heap [] 0 0 (MQ below (vp_Si (fun q => q = res)) args s 0 0 (fun _ => False)) (F0 m 4 ls []) := by
  have hx := E.1
  have hb := E.2.1
  have hts := E.2.2.2.2
  intro k
  induction k with
  | zero =>
    intro x2 x3 ls hf hl
    exact fx2_z hf
  | succ k ih =>
    intro x2 x3 ls hf hl
    have hf := (gX7_waitsOf_4.eq_1 ..).symm.trans hf
    refine lv_iload_n hx hb dX7_waitsOf_4 rfl (lv_at hl 3 rfl) ?_
    refine lv_bipush (v := 16) hx hb dX7_waitsOf_5 rfl ?_
    refine lv_icmp_ge (tgt := 38) hx hb dX7_waitsOf_7 rfl (fun hc => ?_) (fun hc => ?_)
    · have hf := ite_t hf hc
      refine lv_iload_n hx hb dX7_waitsOf_38 rfl (lv_at hl 2 rfl) ?_
      exact s_iretR E hrt hlocks hf dX7_waitsOf_39
    · have hf := ite_f hf hc
      refine lv_iload_n hx hb dX7_waitsOf_10 rfl (lv_at hl 2 rfl) ?_
      refine lv_iload_n hx hb dX7_waitsOf_11 rfl (lv_at hl 1 rfl) ?_
      refine lv_iload_n hx hb dX7_waitsOf_12 rfl (lv_at hl 3 rfl) ?_
      refine lv_ishr hx hb dX7_waitsOf_13 ?_
      refine lv_iconst (v := 1) hx hb dX7_waitsOf_14 rfl ?_
      refine lv_iand hx hb dX7_waitsOf_15 ?_
      refine lv_iconst (v := 1) hx hb dX7_waitsOf_16 rfl ?_
      refine lv_icmp_ne (tgt := 29) hx hb dX7_waitsOf_17 rfl (fun hc => ?_) (fun hc => ?_)
      · have hf := ite_f hf hc
        refine lv_iconst (v := 0) hx hb dX7_waitsOf_29 rfl ?_
        refine lv_iadd hx hb dX7_waitsOf_30 ?_
        refine s_nm hf (fun z1 hf => ?_)
        refine lv_istore_n (lv' := [(2, .int z1), (0, .ref (ad 157)), (1, .int x1), (3, .int x3)]) hx hb dX7_waitsOf_31 rfl hl (Nat.le_of_ble_eq_true rfl) rfl (fun ls hl => ?_)
        obtain ⟨z2, ez9, hf⟩ := nm_x hf
        refine lv_iinc (v := z2) (lv' := [(3, .int z2), (2, .int z1), (0, .ref (ad 157)), (1, .int x1)]) hx hb dX7_waitsOf_32 hl (k := 3) rfl (by rw [ez9]; rfl) (Nat.le_of_ble_eq_true rfl) rfl (fun ls hl => ?_)
        refine lv_goto (tgt := 4) hx hb dX7_waitsOf_35 rfl ?_
        exact ih _ _ _ hf (lv_sub hl [2, 3, 1, 0] rfl)
      · have hf := ite_t hf hc
        refine lv_aload_n hx hb dX7_waitsOf_20 rfl (lv_at hl 0 rfl) ?_
        refine lv_iload_n hx hb dX7_waitsOf_21 rfl (lv_at hl 3 rfl) ?_
        refine lv_iconst (v := 5) hx hb dX7_waitsOf_22 rfl ?_
        refine sc_R hf (rV_R (As := [.int x3, .int 5]) (rest := [.int x2]) E hU hP sc9 (slt hsh hn 157 rfl) rfl (mX7_at l D G ad r _ n x hsh hn x3 5) (cwGV 2 okX7_at wmX7_105 hts rfl rfl ⟨Nat.le_of_ble_eq_true rfl, Nat.le_of_ble_eq_true rfl⟩) rfl hl.1 (Nat.le_of_ble_eq_true rfl) dX7_waitsOf_23 ⟨Nat.zero_le _, Nat.zero_le _⟩ rfl) (fun y3 hf => ?_)
        refine lv_goto (tgt := 30) hx hb dX7_waitsOf_26 rfl ?_
        refine lv_iadd hx hb dX7_waitsOf_30 ?_
        refine s_nm hf (fun z4 hf => ?_)
        refine lv_istore_n (lv' := [(2, .int z4), (0, .ref (ad 157)), (1, .int x1), (3, .int x3)]) hx hb dX7_waitsOf_31 rfl hl (Nat.le_of_ble_eq_true rfl) rfl (fun ls hl => ?_)
        obtain ⟨z5, ez9, hf⟩ := nm_x hf
        refine lv_iinc (v := z5) (lv' := [(3, .int z5), (2, .int z4), (0, .ref (ad 157)), (1, .int x1)]) hx hb dX7_waitsOf_32 hl (k := 3) rfl (by rw [ez9]; rfl) (Nat.le_of_ble_eq_true rfl) rfl (fun ls hl => ?_)
        refine lv_goto (tgt := 4) hx hb dX7_waitsOf_35 rfl ?_
        exact ih _ _ _ hf (lv_sub hl [2, 3, 1, 0] rfl)
set_option maxRecDepth 100000 in
set_option maxHeartbeats 4000000 in
theorem mX7_waitsOf (l : Launch) (K : Nat) (D : va_G) (G : Nat → ClassId) (ad : Nat → Nat) (r : sR) (v : sV) (n : Nat) (x : Int64 × UInt64) (hsh : sSh r) (hn : 172 ≤ n) (x1 : Int32) : sMR l yX7_waitsOf (.code yX7_waitsOf cX7_waitsOf 4 (some .int) :: wsL_law) rmX7_waitsOf D G ad r v n x [.ref (ad 157), .int x1] (fX7_waitsOf K x1 v) := by
  intro res hf
  refine Met.ofW (cc := cX7_waitsOf) (maxL := 4) (ret := (some .int)) (by decide) rfl ?_
  intro p e s m args below meth c s₁ B hml hv
  obtain ⟨rfl, hU, hP⟩ := hv
  have hx := B.exec
  have hb := B.bytes
  have hrt := B.returns
  have hts : ∀ w ∈ wsL_law, w.before _ s = true := fun w hw => atoms_spec (ws := .code yX7_waitsOf cX7_waitsOf 4 (some .int) :: wsL_law) B.pre w (List.mem_cons_of_mem _ hw)
  have hlocks := B.notSynchronized
  have E : CallFix p m c cX7_waitsOf 4 s ([.ref (ad 157), .int x1] : List Value).toArray wsL_law RX7 := ⟨hx, hb, hml, findClass_of_methodNamed B.named, hts⟩
  have hl := lv_entry ([.ref (ad 157), .int x1]) (n := 4) (Nat.le_of_ble_eq_true rfl)
  rw [lg_entry_eq]
  generalize (lg_sl ([.ref (ad 157), .int x1]) ++ List.replicate (4 - (lg_sl ([.ref (ad 157), .int x1])).length) Slot.unset).toArray = ls at hl ⊢
  have hl : lv_has ls 4 [(0, .ref (ad 157)), (1, .int x1)] := hl
  have hf := (fX7_waitsOf.eq_1 ..).symm.trans hf
  refine lv_iconst (v := 0) hx hb dX7_waitsOf_0 rfl ?_
  refine lv_istore_n (lv' := [(2, .int 0), (0, .ref (ad 157)), (1, .int x1)]) hx hb dX7_waitsOf_1 rfl hl (Nat.le_of_ble_eq_true rfl) rfl (fun ls hl => ?_)
  refine lv_iconst (v := 0) hx hb dX7_waitsOf_2 rfl ?_
  refine lv_istore_n (lv' := [(3, .int 0), (2, .int 0), (0, .ref (ad 157)), (1, .int x1)]) hx hb dX7_waitsOf_3 rfl hl (Nat.le_of_ble_eq_true rfl) rfl (fun ls hl => ?_)
  exact lX7_waitsOf_4 E hlocks hrt hU hsh hn hP _ _ _ _ hf (lv_sub hl [2, 3, 1, 0] rfl)
abbrev rmX7_jam : Room := { frames := 5, cells := 0, slots := 0, locals := 114 }
set_option maxRecDepth 100000 in
set_option maxHeartbeats 4000000 in
theorem wX7_jam_37 {K : Nat} {x2 : Int32} {x3 : Int32} {t1 : Int32} {res : (Int32 × sV)} (E : CallFix p m c cX7_jam 4 s args wsL_law RX7) (hlocks : meth.locks = false) (hrt : meth.sig.returnType = (some .int)) (hU : sU D G s) (hsh : sSh r) (hn : 172 ≤ n) {v : sV} {H : Heap} {locs : List Loc} (hB : sB D G (sA ad r n s.heap.size) s.heap ad r v n x H locs) {ls : Array Slot} (hf : bX7_jam_37 K x2 x3 t1 v = some res) (hl : lv_has ls 4 [(0, .ref (ad 157)), (2, .int x2), (3, .int x3)]) :
    W p l e rmX7_jam s m args below meth c H locs 0 0 (MQ below (sQI D G ad r n x s.heap.size res) args s 0 0 (sA ad r n s.heap.size)) (F0 m 37 ls [.int t1, .ref (ad 157)]) := by
  have hx := E.1
  have hb := E.2.1
  have hts := E.2.2.2.2
  have hf := (bX7_jam_37.eq_1 ..).symm.trans hf
  refine s_putI (k := 6) (ty1 := .int) E hU hB sc9 (slt hsh hn 157 rfl) rfl inlX7 (Nat.le_of_ble_eq_true rfl) rfl rfl wkX7_47 rfl rfl rfl rfl dX7_jam_37 hf (fun v3 hf H locs hB => ?_)
  refine lv_aload_n hx hb dX7_jam_40 rfl (lv_at hl 0 rfl) ?_
  refine s_getI (k := 6) E hU hB.1 sc9 (slt hsh hn 157 rfl) rfl inlX7 (Nat.le_of_ble_eq_true rfl) rfl rfl wkX7_47 dX7_jam_41 ?_
  refine lv_if_eq (tgt := 49) hx hb dX7_jam_44 rfl (fun hc => ?_) (fun hc => ?_)
  · have hf := ite_t hf hc
    refine lv_iload_n hx hb dX7_jam_49 rfl (lv_at hl 1 rfl) ?_
    refine lv_if_ne (tgt := 57) hx hb dX7_jam_50 rfl (fun hc => ?_) (fun hc => ?_)
    · have hf := ite_f hf hc
      refine lv_iload_n hx hb dX7_jam_57 rfl (lv_at hl 1 rfl) ?_
      refine lv_iconst (v := 1) hx hb dX7_jam_58 rfl ?_
      refine lv_icmp_ne (tgt := 69) hx hb dX7_jam_59 rfl (fun hc => ?_) (fun hc => ?_)
      · have hf := ite_f hf hc
        refine lv_iload_n hx hb dX7_jam_69 rfl (lv_at hl 1 rfl) ?_
        refine lv_iconst (v := 2) hx hb dX7_jam_70 rfl ?_
        refine lv_icmp_ne (tgt := 82) hx hb dX7_jam_71 rfl (fun hc => ?_) (fun hc => ?_)
        · have hf := ite_f hf hc
          refine lv_aload_n hx hb dX7_jam_82 rfl (lv_at hl 0 rfl) ?_
          refine lv_iload_n hx hb dX7_jam_83 rfl (lv_at hl 2 rfl) ?_
          refine sc_R hf (rV_R (As := [.int x3]) (rest := []) E hU hB.1 sc9 (slt hsh hn 157 rfl) rfl (mX7_freeAround l K D G ad r _ n x hsh hn x3) (cwGV 1 okX7_freeAround wmX7_186 hts rfl rfl ⟨Nat.le_of_ble_eq_true rfl, Nat.le_of_ble_eq_true rfl⟩) rfl hl.1 (Nat.le_of_ble_eq_true rfl) dX7_jam_84 ⟨Nat.zero_le _, Nat.zero_le _⟩ rfl) (fun y4 hf => ?_)
          exact s_iretW E hrt hlocks hB hf dX7_jam_87
        · have hf := ite_t hf hc
          refine lv_aload_n hx hb dX7_jam_74 rfl (lv_at hl 0 rfl) ?_
          refine lv_iload_n hx hb dX7_jam_75 rfl (lv_at hl 2 rfl) ?_
          refine sc_R hf (rV_R (As := [.int x3]) (rest := []) E hU hB.1 sc9 (slt hsh hn 157 rfl) rfl (mX7_waitsOf l K D G ad r _ n x hsh hn x3) (cwGV 1 okX7_waitsOf wmX7_183 hts rfl rfl ⟨Nat.le_of_ble_eq_true rfl, Nat.le_of_ble_eq_true rfl⟩) rfl hl.1 (Nat.le_of_ble_eq_true rfl) dX7_jam_76 ⟨Nat.zero_le _, Nat.zero_le _⟩ rfl) (fun y5 hf => ?_)
          refine lv_goto (tgt := 87) hx hb dX7_jam_79 rfl ?_
          exact s_iretW E hrt hlocks hB hf dX7_jam_87
      · have hf := ite_t hf hc
        refine lv_iload_n hx hb dX7_jam_62 rfl (lv_at hl 2 rfl) ?_
        refine sc_R hf (rS_S (As := [.int x3]) (rest := []) E (mX7_bits l K x3) (cwGS 1 okX7_bits wmX7_177 hts rfl rfl ⟨Nat.le_of_ble_eq_true rfl, Nat.le_of_ble_eq_true rfl⟩) rfl hl.1 (Nat.le_of_ble_eq_true rfl) dX7_jam_63 ⟨Nat.zero_le _, Nat.zero_le _⟩ rfl) (fun y6 hf => ?_)
        refine lv_goto (tgt := 87) hx hb dX7_jam_66 rfl ?_
        exact s_iretW E hrt hlocks hB hf dX7_jam_87
    · have hf := ite_t hf hc
      refine lv_iload_n hx hb dX7_jam_53 rfl (lv_at hl 2 rfl) ?_
      refine lv_goto (tgt := 87) hx hb dX7_jam_54 rfl ?_
      exact s_iretW E hrt hlocks hB hf dX7_jam_87
  · have hf := ite_f hf hc
    refine lv_iconst (v := 0) hx hb dX7_jam_47 rfl ?_
    exact s_iretW E hrt hlocks hB hf dX7_jam_48
set_option maxRecDepth 100000 in
set_option maxHeartbeats 4000000 in
theorem wX7_jam_13 {K : Nat} {x2 : Int32} {t0 : Int32} {res : (Int32 × sV)} (E : CallFix p m c cX7_jam 4 s args wsL_law RX7) (hlocks : meth.locks = false) (hrt : meth.sig.returnType = (some .int)) (hU : sU D G s) (hsh : sSh r) (hn : 172 ≤ n) {v : sV} {H : Heap} {locs : List Loc} (hB : sB D G (sA ad r n s.heap.size) s.heap ad r v n x H locs) {ls : Array Slot} (hf : bX7_jam_13 K x2 t0 v = some res) (hl : lv_has ls 4 [(0, .ref (ad 157)), (2, .int x2)]) :
    W p l e rmX7_jam s m args below meth c H locs 0 0 (MQ below (sQI D G ad r n x s.heap.size res) args s 0 0 (sA ad r n s.heap.size)) (F0 m 13 ls [.int t0]) := by
  have hx := E.1
  have hb := E.2.1
  have hts := E.2.2.2.2
  have hf := (bX7_jam_13.eq_1 ..).symm.trans hf
  refine lv_istore_n (lv' := [(3, .int t0), (0, .ref (ad 157)), (2, .int x2)]) hx hb dX7_jam_13 rfl hl (Nat.le_of_ble_eq_true rfl) rfl (fun ls hl => ?_)
  refine lv_aload_n hx hb dX7_jam_14 rfl (lv_at hl 1 rfl) ?_
  refine lv_iload_n hx hb dX7_jam_15 rfl (lv_at hl 0 rfl) ?_
  refine lv_if_ne (tgt := 23) hx hb dX7_jam_16 rfl (fun hc => ?_) (fun hc => ?_)
  · have hf := ite_f hf hc
    refine lv_iload_n hx hb dX7_jam_23 rfl (lv_at hl 2 rfl) ?_
    refine lv_iconst (v := 0) hx hb dX7_jam_24 rfl ?_
    refine lv_iconst (v := 3) hx hb dX7_jam_25 rfl ?_
    refine sc_R hf (rS_S (As := [.int x2, .int 0, .int 3]) (rest := [.ref (ad 157)]) E (mX7_isIn l x2 0 3) (cwGS 3 okX7_isIn wmX7_51 hts rfl rfl ⟨Nat.le_of_ble_eq_true rfl, Nat.le_of_ble_eq_true rfl⟩) rfl hl.1 (Nat.le_of_ble_eq_true rfl) dX7_jam_26 ⟨Nat.zero_le _, Nat.zero_le _⟩ rfl) (fun y2 hf => ?_)
    refine lv_if_eq (tgt := 36) hx hb dX7_jam_29 rfl (fun hc => ?_) (fun hc => ?_)
    · have hf := ite_t hf hc
      refine lv_iconst (v := 2) hx hb dX7_jam_36 rfl ?_
      exact wX7_jam_37 E hlocks hrt hU hsh hn hB hf (lv_sub hl [1, 2, 0] rfl)
    · have hf := ite_f hf hc
      refine lv_iconst (v := 0) hx hb dX7_jam_32 rfl ?_
      refine lv_goto (tgt := 37) hx hb dX7_jam_33 rfl ?_
      exact wX7_jam_37 E hlocks hrt hU hsh hn hB hf (lv_sub hl [1, 2, 0] rfl)
  · have hf := ite_t hf hc
    refine lv_iconst (v := 1) hx hb dX7_jam_19 rfl ?_
    refine lv_goto (tgt := 37) hx hb dX7_jam_20 rfl ?_
    exact wX7_jam_37 E hlocks hrt hU hsh hn hB hf (lv_sub hl [1, 2, 0] rfl)
set_option maxRecDepth 100000 in
set_option maxHeartbeats 4000000 in
theorem mX7_jam (l : Launch) (K : Nat) (D : va_G) (G : Nat → ClassId) (ad : Nat → Nat) (r : sR) (v : sV) (n : Nat) (x : Int64 × UInt64) (hsh : sSh r) (hn : 172 ≤ n) (x1 : Int32) (x2 : Int32) : sMI l yX7_jam (.code yX7_jam cX7_jam 4 (some .int) :: wsL_law) rmX7_jam D G ad r v n x [.ref (ad 157), .int x1, .int x2] (fX7_jam K x1 x2 v) := by
  intro sz res hf
  refine Met.ofW (cc := cX7_jam) (maxL := 4) (ret := (some .int)) (by decide) rfl ?_
  intro p e s m args below meth c s₁ B hml hv
  obtain ⟨rfl, rfl, hU, hP, hD⟩ := hv
  have hx := B.exec
  have hb := B.bytes
  have hrt := B.returns
  have hts : ∀ w ∈ wsL_law, w.before _ s = true := fun w hw => atoms_spec (ws := .code yX7_jam cX7_jam 4 (some .int) :: wsL_law) B.pre w (List.mem_cons_of_mem _ hw)
  have hlocks := B.notSynchronized
  have E : CallFix p m c cX7_jam 4 s ([.ref (ad 157), .int x1, .int x2] : List Value).toArray wsL_law RX7 := ⟨hx, hb, hml, findClass_of_methodNamed B.named, hts⟩
  have hB : sB D G (sA ad r n s.heap.size) s.heap ad r v n x s.heap [] := ⟨hP, sD_self hD, va_S.rf⟩
  have hl := lv_entry ([.ref (ad 157), .int x1, .int x2]) (n := 4) (Nat.le_of_ble_eq_true rfl)
  rw [lg_entry_eq]
  generalize (lg_sl ([.ref (ad 157), .int x1, .int x2]) ++ List.replicate (4 - (lg_sl ([.ref (ad 157), .int x1, .int x2])).length) Slot.unset).toArray = ls at hl ⊢
  have hl : lv_has ls 4 [(0, .ref (ad 157)), (1, .int x1), (2, .int x2)] := hl
  have hf := (fX7_jam.eq_1 ..).symm.trans hf
  refine lv_iload_n hx hb dX7_jam_0 rfl (lv_at hl 1 rfl) ?_
  refine lv_if_ge (tgt := 8) hx hb dX7_jam_1 rfl (fun hc => ?_) (fun hc => ?_)
  · have hf := ite_t hf hc
    refine lv_aload_n hx hb dX7_jam_8 rfl (lv_at hl 0 rfl) ?_
    refine lv_iload_n hx hb dX7_jam_9 rfl (lv_at hl 1 rfl) ?_
    refine sc_R hf (rV_R (As := [.int x1]) (rest := []) E hU hB.1 sc9 (slt hsh hn 157 rfl) rfl (mX7_jamOf l K D G ad r _ n x hsh hn x1) (cwGV 1 okX7_jamOf wmX7_180 hts rfl rfl ⟨Nat.le_of_ble_eq_true rfl, Nat.le_of_ble_eq_true rfl⟩) rfl hl.1 (Nat.le_of_ble_eq_true rfl) dX7_jam_10 ⟨Nat.zero_le _, Nat.zero_le _⟩ rfl) (fun y1 hf => ?_)
    exact wX7_jam_13 E hlocks hrt hU hsh hn hB hf (lv_sub hl [0, 2] rfl)
  · have hf := ite_f hf hc
    refine lv_iconst (v := 0) hx hb dX7_jam_4 rfl ?_
    refine lv_goto (tgt := 13) hx hb dX7_jam_5 rfl ?_
    exact wX7_jam_13 E hlocks hrt hU hsh hn hB hf (lv_sub hl [0, 2] rfl)
abbrev rmX7_meanDistance : Room := { frames := 6, cells := 0, slots := 0, locals := 139 }
set_option maxRecDepth 100000 in
set_option maxHeartbeats 4000000 in
theorem wX7_meanDistance_75 {K : Nat} {x1 : Int32} {x2 : Int32} {t1 : Int32} {res : (UInt64 × sV)} (E : CallFix p m c cX7_meanDistance 5 s args wsL_law RX7) (hlocks : meth.locks = false) (hrt : meth.sig.returnType = (some .double)) (hU : sU D G s) (hsh : sSh r) (hn : 172 ≤ n) {v : sV} {H : Heap} {locs : List Loc} (hB : sB D G (sA ad r n s.heap.size) s.heap ad r v n x H locs) {ls : Array Slot} (hf : bX7_meanDistance_75 K x1 x2 t1 v = some res) (hl : lv_has ls 5 [(0, .ref (ad 157)), (1, .int x1), (2, .int x2)]) :
    W p l e rmX7_meanDistance s m args below meth c H locs 0 0 (MQ below (sQD D G ad r n x s.heap.size res) args s 0 0 (sA ad r n s.heap.size)) (F0 m 75 ls [.int t1, .ref (ad 157)]) := by
  have hx := E.1
  have hb := E.2.1
  have hts := E.2.2.2.2
  have hf := (bX7_meanDistance_75.eq_1 ..).symm.trans hf
  refine s_putI (k := 6) (ty1 := .int) E hU hB sc9 (slt hsh hn 157 rfl) rfl inlX7 (Nat.le_of_ble_eq_true rfl) rfl rfl wkX7_47 rfl rfl rfl rfl dX7_meanDistance_75 hf (fun v1 hf H locs hB => ?_)
  refine lv_aload_n hx hb dX7_meanDistance_78 rfl (lv_at hl 0 rfl) ?_
  refine s_getI (k := 6) E hU hB.1 sc9 (slt hsh hn 157 rfl) rfl inlX7 (Nat.le_of_ble_eq_true rfl) rfl rfl wkX7_47 dX7_meanDistance_79 ?_
  refine lv_if_ne (tgt := 93) hx hb dX7_meanDistance_82 rfl (fun hc => ?_) (fun hc => ?_)
  · have hf := ite_f hf hc
    refine lv_dconst0 hx hb dX7_meanDistance_93 ?_
    exact s_dretW E hrt hlocks hB hf dX7_meanDistance_94
  · have hf := ite_t hf hc
    refine lv_iload_n hx hb dX7_meanDistance_85 rfl (lv_at hl 2 rfl) ?_
    refine lv_i2d hx hb dX7_meanDistance_86 ?_
    refine lv_iload_n hx hb dX7_meanDistance_87 rfl (lv_at hl 1 rfl) ?_
    refine lv_i2d hx hb dX7_meanDistance_88 ?_
    refine s_ddiv E dX7_meanDistance_89 hf (fun y2 hf => ?_)
    refine lv_goto (tgt := 94) hx hb dX7_meanDistance_90 rfl ?_
    exact s_dretW E hrt hlocks hB hf dX7_meanDistance_94
set_option maxRecDepth 100000 in
set_option maxHeartbeats 4000000 in
theorem wX7_meanDistance_48 {K : Nat} {x2 : Int32} {x3 : Int32} {x4 : Int32} {t0 : Int32} {t1 : Int32} {k6 : Int32 → Int32 → Int32 → sV → Option (UInt64 × sV)} {res : (UInt64 × sV)} (E : CallFix p m c cX7_meanDistance 5 s args wsL_law RX7) (hlocks : meth.locks = false) (hrt : meth.sig.returnType = (some .double)) (hU : sU D G s) (hsh : sSh r) (hn : 172 ≤ n) {v : sV} {H : Heap} {locs : List Loc} (hB : sB D G (sA ad r n s.heap.size) s.heap ad r v n x H locs) (ih6 : ∀ (x1 : Int32) (x2 : Int32) (x3 : Int32) (v : sV) (H : Heap) (locs : List Loc) (ls : Array Slot), k6 x1 x2 x3 v = some res → sB D G (sA ad r n s.heap.size) s.heap ad r v n x H locs → lv_has ls 5 [(0, .ref (ad 157)), (1, .int x1), (2, .int x2), (3, .int x3)] → W p l e rmX7_meanDistance s m args below meth c H locs 0 0 (MQ below (sQD D G ad r n x s.heap.size res) args s 0 0 (sA ad r n s.heap.size)) (F0 m 6 ls [])) {ls : Array Slot} (hf : bX7_meanDistance_48 K k6 x2 x3 x4 t0 t1 v = some res) (hl : lv_has ls 5 [(0, .ref (ad 157)), (2, .int x2), (3, .int x3), (4, .int x4)]) :
    W p l e rmX7_meanDistance s m args below meth c H locs 0 0 (MQ below (sQD D G ad r n x s.heap.size res) args s 0 0 (sA ad r n s.heap.size)) (F0 m 48 ls [.int t1, .int t0]) := by
  have hx := E.1
  have hb := E.2.1
  have hts := E.2.2.2.2
  have hf := (bX7_meanDistance_48.eq_1 ..).symm.trans hf
  refine lv_iadd hx hb dX7_meanDistance_48 ?_
  refine s_nm hf (fun z4 hf => ?_)
  refine lv_istore_n (lv' := [(1, .int z4), (0, .ref (ad 157)), (2, .int x2), (3, .int x3), (4, .int x4)]) hx hb dX7_meanDistance_49 rfl hl (Nat.le_of_ble_eq_true rfl) rfl (fun ls hl => ?_)
  refine lv_iload_n hx hb dX7_meanDistance_50 rfl (lv_at hl 2 rfl) ?_
  refine lv_iconst (v := 0) hx hb dX7_meanDistance_51 rfl ?_
  refine lv_iload hx hb dX7_meanDistance_52 (lv_at hl 4 rfl) ?_
  refine va_mmax hx hb (E.2.2.1.trans hl.1.symm) E.2.2.2.1 (hts _ wmX7_189) (hts _ wst_max) (hts _ wini_math) (hts _ wcd_max) (Nat.le_of_ble_eq_true rfl) (Nat.le_of_ble_eq_true rfl) (Nat.zero_le _) (Nat.zero_le _) dX7_meanDistance_54 ?_
  refine lv_iadd hx hb dX7_meanDistance_57 ?_
  refine s_nm hf (fun z5 hf => ?_)
  refine lv_istore_n (lv' := [(2, .int z5), (1, .int z4), (0, .ref (ad 157)), (3, .int x3), (4, .int x4)]) hx hb dX7_meanDistance_58 rfl hl (Nat.le_of_ble_eq_true rfl) rfl (fun ls hl => ?_)
  obtain ⟨z6, ez9, hf⟩ := nm_x hf
  refine lv_iinc (v := z6) (lv' := [(3, .int z6), (2, .int z5), (1, .int z4), (0, .ref (ad 157)), (4, .int x4)]) hx hb dX7_meanDistance_59 hl (k := 3) rfl (by rw [ez9]; rfl) (Nat.le_of_ble_eq_true rfl) rfl (fun ls hl => ?_)
  refine lv_goto (tgt := 6) hx hb dX7_meanDistance_62 rfl ?_
  exact ih6 _ _ _ _ _ _ _ hf hB (lv_sub hl [3, 2, 1, 0] rfl)
set_option maxRecDepth 100000 in
set_option maxHeartbeats 4000000 in
theorem wX7_meanDistance_35 {K : Nat} {x1 : Int32} {x2 : Int32} {x3 : Int32} {t0 : Int32} {k6 : Int32 → Int32 → Int32 → sV → Option (UInt64 × sV)} {res : (UInt64 × sV)} (E : CallFix p m c cX7_meanDistance 5 s args wsL_law RX7) (hlocks : meth.locks = false) (hrt : meth.sig.returnType = (some .double)) (hU : sU D G s) (hsh : sSh r) (hn : 172 ≤ n) {v : sV} {H : Heap} {locs : List Loc} (hB : sB D G (sA ad r n s.heap.size) s.heap ad r v n x H locs) (ih6 : ∀ (x1 : Int32) (x2 : Int32) (x3 : Int32) (v : sV) (H : Heap) (locs : List Loc) (ls : Array Slot), k6 x1 x2 x3 v = some res → sB D G (sA ad r n s.heap.size) s.heap ad r v n x H locs → lv_has ls 5 [(0, .ref (ad 157)), (1, .int x1), (2, .int x2), (3, .int x3)] → W p l e rmX7_meanDistance s m args below meth c H locs 0 0 (MQ below (sQD D G ad r n x s.heap.size res) args s 0 0 (sA ad r n s.heap.size)) (F0 m 6 ls [])) {ls : Array Slot} (hf : bX7_meanDistance_35 K k6 x1 x2 x3 t0 v = some res) (hl : lv_has ls 5 [(0, .ref (ad 157)), (1, .int x1), (2, .int x2), (3, .int x3)]) :
    W p l e rmX7_meanDistance s m args below meth c H locs 0 0 (MQ below (sQD D G ad r n x s.heap.size res) args s 0 0 (sA ad r n s.heap.size)) (F0 m 35 ls [.int t0]) := by
  have hx := E.1
  have hb := E.2.1
  have hts := E.2.2.2.2
  have hf := (bX7_meanDistance_35.eq_1 ..).symm.trans hf
  refine lv_istore (lv' := [(4, .int t0), (0, .ref (ad 157)), (1, .int x1), (2, .int x2), (3, .int x3)]) hx hb dX7_meanDistance_35 hl (Nat.le_of_ble_eq_true rfl) rfl (fun ls hl => ?_)
  refine lv_iload_n hx hb dX7_meanDistance_37 rfl (lv_at hl 2 rfl) ?_
  refine lv_iload hx hb dX7_meanDistance_38 (lv_at hl 0 rfl) ?_
  refine lv_if_ge (tgt := 47) hx hb dX7_meanDistance_40 rfl (fun hc => ?_) (fun hc => ?_)
  · have hf := ite_t hf hc
    refine lv_iconst (v := 1) hx hb dX7_meanDistance_47 rfl ?_
    exact wX7_meanDistance_48 E hlocks hrt hU hsh hn hB ih6 hf (lv_sub hl [1, 3, 4, 0] rfl)
  · have hf := ite_f hf hc
    refine lv_iconst (v := 0) hx hb dX7_meanDistance_43 rfl ?_
    refine lv_goto (tgt := 48) hx hb dX7_meanDistance_44 rfl ?_
    exact wX7_meanDistance_48 E hlocks hrt hU hsh hn hB ih6 hf (lv_sub hl [1, 3, 4, 0] rfl)
set_option maxRecDepth 100000 in
set_option maxHeartbeats 4000000 in
theorem lX7_meanDistance_6 {K : Nat} {res : (UInt64 × sV)} (E : CallFix p m c cX7_meanDistance 5 s args wsL_law RX7) (hlocks : meth.locks = false) (hrt : meth.sig.returnType = (some .double)) (hU : sU D G s) (hsh : sSh r) (hn : 172 ≤ n) :
    ∀ (k : Nat) (x1 : Int32) (x2 : Int32) (x3 : Int32) (v : sV) (H : Heap) (locs : List Loc) (ls : Array Slot), fx4 (gX7_meanDistance_6 K) k x1 x2 x3 v = some res → sB D G (sA ad r n s.heap.size) s.heap ad r v n x H locs → lv_has ls 5 [(0, .ref (ad 157)), (1, .int x1), (2, .int x2), (3, .int x3)] → W p l e rmX7_meanDistance s m args below meth c H locs 0 0 (MQ below (sQD D G ad r n x s.heap.size res) args s 0 0 (sA ad r n s.heap.size)) (F0 m 6 ls []) := by
  have hx := E.1
  have hb := E.2.1
  have hts := E.2.2.2.2
  intro k
  induction k with
  | zero =>
    intro x1 x2 x3 v H locs ls hf hB hl
    exact fx4_z hf
  | succ k ih =>
    intro x1 x2 x3 v H locs ls hf hB hl
    have hf := (gX7_meanDistance_6.eq_1 ..).symm.trans hf
    refine lv_iload_n hx hb dX7_meanDistance_6 rfl (lv_at hl 3 rfl) ?_
    refine lv_bipush (v := 16) hx hb dX7_meanDistance_7 rfl ?_
    refine lv_icmp_ge (tgt := 65) hx hb dX7_meanDistance_9 rfl (fun hc => ?_) (fun hc => ?_)
    · have hf := ite_t hf hc
      refine lv_aload_n hx hb dX7_meanDistance_65 rfl (lv_at hl 0 rfl) ?_
      refine lv_iload_n hx hb dX7_meanDistance_66 rfl (lv_at hl 1 rfl) ?_
      refine lv_if_ne (tgt := 74) hx hb dX7_meanDistance_67 rfl (fun hc => ?_) (fun hc => ?_)
      · have hf := ite_f hf hc
        refine lv_iconst (v := 0) hx hb dX7_meanDistance_74 rfl ?_
        exact wX7_meanDistance_75 E hlocks hrt hU hsh hn hB hf (lv_sub hl [0, 1, 2] rfl)
      · have hf := ite_t hf hc
        refine lv_iconst (v := 1) hx hb dX7_meanDistance_70 rfl ?_
        refine lv_goto (tgt := 75) hx hb dX7_meanDistance_71 rfl ?_
        exact wX7_meanDistance_75 E hlocks hrt hU hsh hn hB hf (lv_sub hl [0, 1, 2] rfl)
    · have hf := ite_f hf hc
      refine lv_aload_n hx hb dX7_meanDistance_12 rfl (lv_at hl 0 rfl) ?_
      refine lv_iload_n hx hb dX7_meanDistance_13 rfl (lv_at hl 3 rfl) ?_
      refine sc_R hf (rV_R (As := [.int x3]) (rest := []) E hU hB.1 sc9 (slt hsh hn 157 rfl) rfl (mX7_isAgent l D G ad r _ n x hsh hn x3) (cwGV 1 okX7_isAgent wmX7_102 hts rfl rfl ⟨Nat.le_of_ble_eq_true rfl, Nat.le_of_ble_eq_true rfl⟩) rfl hl.1 (Nat.le_of_ble_eq_true rfl) dX7_meanDistance_14 ⟨Nat.zero_le _, Nat.zero_le _⟩ rfl) (fun y3 hf => ?_)
      refine lv_if_eq (tgt := 34) hx hb dX7_meanDistance_17 rfl (fun hc => ?_) (fun hc => ?_)
      · have hf := ite_t hf hc
        refine lv_iconst (v := (-1)) hx hb dX7_meanDistance_34 rfl ?_
        exact wX7_meanDistance_35 E hlocks hrt hU hsh hn hB ih hf (lv_sub hl [0, 1, 2, 3] rfl)
      · have hf := ite_f hf hc
        refine lv_aload_n hx hb dX7_meanDistance_20 rfl (lv_at hl 0 rfl) ?_
        refine lv_iload_n hx hb dX7_meanDistance_21 rfl (lv_at hl 3 rfl) ?_
        refine lv_aload_n hx hb dX7_meanDistance_22 rfl (lv_at hl 0 rfl) ?_
        refine lv_iload_n hx hb dX7_meanDistance_23 rfl (lv_at hl 3 rfl) ?_
        refine lv_iconst (v := 1) hx hb dX7_meanDistance_24 rfl ?_
        refine sc_R hf (rV_R (As := [.int x3, .int 1]) (rest := [.int x3, .ref (ad 157)]) E hU hB.1 sc9 (slt hsh hn 157 rfl) rfl (mX7_at l D G ad r _ n x hsh hn x3 1) (cwGV 2 okX7_at wmX7_105 hts rfl rfl ⟨Nat.le_of_ble_eq_true rfl, Nat.le_of_ble_eq_true rfl⟩) rfl hl.1 (Nat.le_of_ble_eq_true rfl) dX7_meanDistance_25 ⟨Nat.zero_le _, Nat.zero_le _⟩ rfl) (fun y7 hf => ?_)
        refine sc_I hB (fun q h => Or.inr h) hf (fun q9 h9 => rV_W (As := [.int x3, .int y7]) (rest := []) E hU hB sc9 (slt hsh hn 157 rfl) rfl ((mX7_farFor l K D G ad r _ n x hsh hn x3 y7) _ _ h9) (cwGV 2 okX7_farFor wmX7_126 hts rfl rfl ⟨Nat.le_of_ble_eq_true rfl, Nat.le_of_ble_eq_true rfl⟩) rfl hl.1 (Nat.le_of_ble_eq_true rfl) dX7_meanDistance_28 ⟨Nat.zero_le _, Nat.zero_le _⟩ rfl) (fun y9 v8 hf H locs hB => ?_)
        refine lv_goto (tgt := 35) hx hb dX7_meanDistance_31 rfl ?_
        exact wX7_meanDistance_35 E hlocks hrt hU hsh hn hB ih hf (lv_sub hl [0, 1, 2, 3] rfl)
set_option maxRecDepth 100000 in
set_option maxHeartbeats 4000000 in
theorem mX7_meanDistance (l : Launch) (K : Nat) (D : va_G) (G : Nat → ClassId) (ad : Nat → Nat) (r : sR) (v : sV) (n : Nat) (x : Int64 × UInt64) (hsh : sSh r) (hn : 172 ≤ n) : sMD l yX7_meanDistance (.code yX7_meanDistance cX7_meanDistance 5 (some .double) :: wsL_law) rmX7_meanDistance D G ad r v n x [.ref (ad 157)] (fX7_meanDistance K v) := by
  intro sz res hf
  refine Met.ofW (cc := cX7_meanDistance) (maxL := 5) (ret := (some .double)) (by decide) rfl ?_
  intro p e s m args below meth c s₁ B hml hv
  obtain ⟨rfl, rfl, hU, hP, hD⟩ := hv
  have hx := B.exec
  have hb := B.bytes
  have hrt := B.returns
  have hts : ∀ w ∈ wsL_law, w.before _ s = true := fun w hw => atoms_spec (ws := .code yX7_meanDistance cX7_meanDistance 5 (some .double) :: wsL_law) B.pre w (List.mem_cons_of_mem _ hw)
  have hlocks := B.notSynchronized
  have E : CallFix p m c cX7_meanDistance 5 s ([.ref (ad 157)] : List Value).toArray wsL_law RX7 := ⟨hx, hb, hml, findClass_of_methodNamed B.named, hts⟩
  have hB : sB D G (sA ad r n s.heap.size) s.heap ad r v n x s.heap [] := ⟨hP, sD_self hD, va_S.rf⟩
  have hl := lv_entry ([.ref (ad 157)]) (n := 5) (Nat.le_of_ble_eq_true rfl)
  rw [lg_entry_eq]
  generalize (lg_sl ([.ref (ad 157)]) ++ List.replicate (5 - (lg_sl ([.ref (ad 157)])).length) Slot.unset).toArray = ls at hl ⊢
  have hl : lv_has ls 5 [(0, .ref (ad 157))] := hl
  have hf := (fX7_meanDistance.eq_1 ..).symm.trans hf
  refine lv_iconst (v := 0) hx hb dX7_meanDistance_0 rfl ?_
  refine lv_istore_n (lv' := [(1, .int 0), (0, .ref (ad 157))]) hx hb dX7_meanDistance_1 rfl hl (Nat.le_of_ble_eq_true rfl) rfl (fun ls hl => ?_)
  refine lv_iconst (v := 0) hx hb dX7_meanDistance_2 rfl ?_
  refine lv_istore_n (lv' := [(2, .int 0), (1, .int 0), (0, .ref (ad 157))]) hx hb dX7_meanDistance_3 rfl hl (Nat.le_of_ble_eq_true rfl) rfl (fun ls hl => ?_)
  refine lv_iconst (v := 0) hx hb dX7_meanDistance_4 rfl ?_
  refine lv_istore_n (lv' := [(3, .int 0), (2, .int 0), (1, .int 0), (0, .ref (ad 157))]) hx hb dX7_meanDistance_5 rfl hl (Nat.le_of_ble_eq_true rfl) rfl (fun ls hl => ?_)
  exact lX7_meanDistance_6 E hlocks hrt hU hsh hn _ _ _ _ _ _ _ _ hf hB (lv_sub hl [3, 2, 1, 0] rfl)
abbrev rmX7_density : Room := { frames := 3, cells := 0, slots := 0, locals := 65 }
set_option maxRecDepth 100000 in
set_option maxHeartbeats 4000000 in
theorem wX7_density_43 {K : Nat} {x1 : Int32} {t1 : Int32} {res : (UInt32 × sV)} (E : CallFix p m c cX7_density 3 s args wsL_law RX7) (hlocks : meth.locks = false) (hrt : meth.sig.returnType = (some .float)) (hU : sU D G s) (hsh : sSh r) (hn : 172 ≤ n) {v : sV} {H : Heap} {locs : List Loc} (hB : sB D G (sA ad r n s.heap.size) s.heap ad r v n x H locs) {ls : Array Slot} (hf : bX7_density_43 K x1 t1 v = some res) (hl : lv_has ls 3 [(0, .ref (ad 157)), (1, .int x1)]) :
    W p l e rmX7_density s m args below meth c H locs 0 0 (MQ below (sQF D G ad r n x s.heap.size res) args s 0 0 (sA ad r n s.heap.size)) (F0 m 43 ls [.int t1, .ref (ad 157)]) := by
  have hx := E.1
  have hb := E.2.1
  have hts := E.2.2.2.2
  have hf := (bX7_density_43.eq_1 ..).symm.trans hf
  refine s_putI (k := 6) (ty1 := .int) E hU hB sc9 (slt hsh hn 157 rfl) rfl inlX7 (Nat.le_of_ble_eq_true rfl) rfl rfl wkX7_47 rfl rfl rfl rfl dX7_density_43 hf (fun v1 hf H locs hB => ?_)
  refine lv_aload_n hx hb dX7_density_46 rfl (lv_at hl 0 rfl) ?_
  refine s_getI (k := 6) E hU hB.1 sc9 (slt hsh hn 157 rfl) rfl inlX7 (Nat.le_of_ble_eq_true rfl) rfl rfl wkX7_47 dX7_density_47 ?_
  refine lv_if_ne (tgt := 64) hx hb dX7_density_50 rfl (fun hc => ?_) (fun hc => ?_)
  · have hf := ite_f hf hc
    refine lv_fconst0 hx hb dX7_density_64 ?_
    exact s_fretW E hrt hlocks hB hf dX7_density_65
  · have hf := ite_t hf hc
    refine lv_aload_n hx hb dX7_density_53 rfl (lv_at hl 0 rfl) ?_
    refine sc_R hf (rV_R (As := []) (rest := []) E hU hB.1 sc9 (slt hsh hn 157 rfl) rfl (mX7_many l K D G ad r _ n x hsh hn) (cwGV 0 okX7_many wmX7_115 hts rfl rfl ⟨Nat.le_of_ble_eq_true rfl, Nat.le_of_ble_eq_true rfl⟩) rfl hl.1 (Nat.le_of_ble_eq_true rfl) dX7_density_54 ⟨Nat.zero_le _, Nat.zero_le _⟩ rfl) (fun y2 hf => ?_)
    refine lv_i2f hx hb dX7_density_57 ?_
    refine lv_iload_n hx hb dX7_density_58 rfl (lv_at hl 1 rfl) ?_
    refine lv_i2f hx hb dX7_density_59 ?_
    refine s_fdiv E dX7_density_60 hf (fun y3 hf => ?_)
    refine lv_goto (tgt := 65) hx hb dX7_density_61 rfl ?_
    exact s_fretW E hrt hlocks hB hf dX7_density_65
set_option maxRecDepth 100000 in
set_option maxHeartbeats 4000000 in
theorem lX7_density_4 {K : Nat} {res : (UInt32 × sV)} (E : CallFix p m c cX7_density 3 s args wsL_law RX7) (hlocks : meth.locks = false) (hrt : meth.sig.returnType = (some .float)) (hU : sU D G s) (hsh : sSh r) (hn : 172 ≤ n) {v : sV} {H : Heap} {locs : List Loc} (hB : sB D G (sA ad r n s.heap.size) s.heap ad r v n x H locs) :
    ∀ (k : Nat) (x1 : Int32) (x2 : Int32) (ls : Array Slot), fx2 (gX7_density_4 K v) k x1 x2 = some res → lv_has ls 3 [(0, .ref (ad 157)), (1, .int x1), (2, .int x2)] → W p l e rmX7_density s m args below meth c H locs 0 0 (MQ below (sQF D G ad r n x s.heap.size res) args s 0 0 (sA ad r n s.heap.size)) (F0 m 4 ls []) := by
  have hx := E.1
  have hb := E.2.1
  have hts := E.2.2.2.2
  intro k
  induction k with
  | zero =>
    intro x1 x2 ls hf hl
    exact fx2_z hf
  | succ k ih =>
    intro x1 x2 ls hf hl
    have hf := (gX7_density_4.eq_1 ..).symm.trans hf
    refine lv_iload_n hx hb dX7_density_4 rfl (lv_at hl 2 rfl) ?_
    refine lv_sipush (v := 140) hx hb dX7_density_5 rfl ?_
    refine lv_icmp_ge (tgt := 33) hx hb dX7_density_8 rfl (fun hc => ?_) (fun hc => ?_)
    · have hf := ite_t hf hc
      refine lv_aload_n hx hb dX7_density_33 rfl (lv_at hl 0 rfl) ?_
      refine lv_iload_n hx hb dX7_density_34 rfl (lv_at hl 1 rfl) ?_
      refine lv_if_ne (tgt := 42) hx hb dX7_density_35 rfl (fun hc => ?_) (fun hc => ?_)
      · have hf := ite_f hf hc
        refine lv_iconst (v := 0) hx hb dX7_density_42 rfl ?_
        exact wX7_density_43 E hlocks hrt hU hsh hn hB hf (lv_sub hl [0, 1] rfl)
      · have hf := ite_t hf hc
        refine lv_iconst (v := 1) hx hb dX7_density_38 rfl ?_
        refine lv_goto (tgt := 43) hx hb dX7_density_39 rfl ?_
        exact wX7_density_43 E hlocks hrt hU hsh hn hB hf (lv_sub hl [0, 1] rfl)
    · have hf := ite_f hf hc
      refine lv_iload_n hx hb dX7_density_11 rfl (lv_at hl 1 rfl) ?_
      refine lv_aload_n hx hb dX7_density_12 rfl (lv_at hl 0 rfl) ?_
      refine lv_iload_n hx hb dX7_density_13 rfl (lv_at hl 2 rfl) ?_
      refine sc_R hf (rV_R (As := [.int x2]) (rest := [.int x1]) E hU hB.1 sc9 (slt hsh hn 157 rfl) rfl (mX7_isFree l D G ad r _ n x hsh hn x2) (cwGV 1 okX7_isFree wmX7_79 hts rfl rfl ⟨Nat.le_of_ble_eq_true rfl, Nat.le_of_ble_eq_true rfl⟩) rfl hl.1 (Nat.le_of_ble_eq_true rfl) dX7_density_14 ⟨Nat.zero_le _, Nat.zero_le _⟩ rfl) (fun y4 hf => ?_)
      refine lv_if_eq (tgt := 24) hx hb dX7_density_17 rfl (fun hc => ?_) (fun hc => ?_)
      · have hf := ite_t hf hc
        refine lv_iconst (v := 0) hx hb dX7_density_24 rfl ?_
        refine lv_iadd hx hb dX7_density_25 ?_
        refine s_nm hf (fun z5 hf => ?_)
        refine lv_istore_n (lv' := [(1, .int z5), (0, .ref (ad 157)), (2, .int x2)]) hx hb dX7_density_26 rfl hl (Nat.le_of_ble_eq_true rfl) rfl (fun ls hl => ?_)
        obtain ⟨z6, ez9, hf⟩ := nm_x hf
        refine lv_iinc (v := z6) (lv' := [(2, .int z6), (1, .int z5), (0, .ref (ad 157))]) hx hb dX7_density_27 hl (k := 2) rfl (by rw [ez9]; rfl) (Nat.le_of_ble_eq_true rfl) rfl (fun ls hl => ?_)
        refine lv_goto (tgt := 4) hx hb dX7_density_30 rfl ?_
        exact ih _ _ _ hf (lv_sub hl [2, 1, 0] rfl)
      · have hf := ite_f hf hc
        refine lv_iconst (v := 1) hx hb dX7_density_20 rfl ?_
        refine lv_goto (tgt := 25) hx hb dX7_density_21 rfl ?_
        refine lv_iadd hx hb dX7_density_25 ?_
        refine s_nm hf (fun z7 hf => ?_)
        refine lv_istore_n (lv' := [(1, .int z7), (0, .ref (ad 157)), (2, .int x2)]) hx hb dX7_density_26 rfl hl (Nat.le_of_ble_eq_true rfl) rfl (fun ls hl => ?_)
        obtain ⟨z8, ez9, hf⟩ := nm_x hf
        refine lv_iinc (v := z8) (lv' := [(2, .int z8), (1, .int z7), (0, .ref (ad 157))]) hx hb dX7_density_27 hl (k := 2) rfl (by rw [ez9]; rfl) (Nat.le_of_ble_eq_true rfl) rfl (fun ls hl => ?_)
        refine lv_goto (tgt := 4) hx hb dX7_density_30 rfl ?_
        exact ih _ _ _ hf (lv_sub hl [2, 1, 0] rfl)
set_option maxRecDepth 100000 in
set_option maxHeartbeats 4000000 in
theorem mX7_density (l : Launch) (K : Nat) (D : va_G) (G : Nat → ClassId) (ad : Nat → Nat) (r : sR) (v : sV) (n : Nat) (x : Int64 × UInt64) (hsh : sSh r) (hn : 172 ≤ n) : sMF l yX7_density (.code yX7_density cX7_density 3 (some .float) :: wsL_law) rmX7_density D G ad r v n x [.ref (ad 157)] (fX7_density K v) := by
  intro sz res hf
  refine Met.ofW (cc := cX7_density) (maxL := 3) (ret := (some .float)) (by decide) rfl ?_
  intro p e s m args below meth c s₁ B hml hv
  obtain ⟨rfl, rfl, hU, hP, hD⟩ := hv
  have hx := B.exec
  have hb := B.bytes
  have hrt := B.returns
  have hts : ∀ w ∈ wsL_law, w.before _ s = true := fun w hw => atoms_spec (ws := .code yX7_density cX7_density 3 (some .float) :: wsL_law) B.pre w (List.mem_cons_of_mem _ hw)
  have hlocks := B.notSynchronized
  have E : CallFix p m c cX7_density 3 s ([.ref (ad 157)] : List Value).toArray wsL_law RX7 := ⟨hx, hb, hml, findClass_of_methodNamed B.named, hts⟩
  have hB : sB D G (sA ad r n s.heap.size) s.heap ad r v n x s.heap [] := ⟨hP, sD_self hD, va_S.rf⟩
  have hl := lv_entry ([.ref (ad 157)]) (n := 3) (Nat.le_of_ble_eq_true rfl)
  rw [lg_entry_eq]
  generalize (lg_sl ([.ref (ad 157)]) ++ List.replicate (3 - (lg_sl ([.ref (ad 157)])).length) Slot.unset).toArray = ls at hl ⊢
  have hl : lv_has ls 3 [(0, .ref (ad 157))] := hl
  have hf := (fX7_density.eq_1 ..).symm.trans hf
  refine lv_iconst (v := 0) hx hb dX7_density_0 rfl ?_
  refine lv_istore_n (lv' := [(1, .int 0), (0, .ref (ad 157))]) hx hb dX7_density_1 rfl hl (Nat.le_of_ble_eq_true rfl) rfl (fun ls hl => ?_)
  refine lv_iconst (v := 0) hx hb dX7_density_2 rfl ?_
  refine lv_istore_n (lv' := [(2, .int 0), (1, .int 0), (0, .ref (ad 157))]) hx hb dX7_density_3 rfl hl (Nat.le_of_ble_eq_true rfl) rfl (fun ls hl => ?_)
  exact lX7_density_4 E hlocks hrt hU hsh hn hB _ _ _ _ hf (lv_sub hl [2, 1, 0] rfl)
abbrev rmX7_feed : Room := { frames := 0, cells := 0, slots := 0, locals := 0 }
set_option maxRecDepth 100000 in
set_option maxHeartbeats 4000000 in
theorem wX7_feed_16 {x1 : Int32} {t1 : Int32} {res : (Int32 × sV)} (E : CallFix p m c cX7_feed 2 s args wsL_law RX7) (hlocks : meth.locks = false) (hrt : meth.sig.returnType = (some .int)) (hU : sU D G s) (hsh : sSh r) (hn : 172 ≤ n) {v : sV} {H : Heap} {locs : List Loc} (hB : sB D G (sA ad r n s.heap.size) s.heap ad r v n x H locs) {ls : Array Slot} (hf : bX7_feed_16 x1 t1 v = some res) (hl : lv_has ls 2 [(0, .ref (ad 157)), (1, .int x1)]) :
    W p l e rmX7_feed s m args below meth c H locs 0 0 (MQ below (sQI D G ad r n x s.heap.size res) args s 0 0 (sA ad r n s.heap.size)) (F0 m 16 ls [.int t1, .ref (ad 157)]) := by
  have hx := E.1
  have hb := E.2.1
  have hts := E.2.2.2.2
  have hf := (bX7_feed_16.eq_1 ..).symm.trans hf
  refine s_putI (k := 6) (ty1 := .int) E hU hB sc9 (slt hsh hn 157 rfl) rfl inlX7 (Nat.le_of_ble_eq_true rfl) rfl rfl wkX7_47 rfl rfl rfl rfl dX7_feed_16 hf (fun v1 hf H locs hB => ?_)
  refine lv_aload_n hx hb dX7_feed_19 rfl (lv_at hl 0 rfl) ?_
  refine s_getI (k := 6) E hU hB.1 sc9 (slt hsh hn 157 rfl) rfl inlX7 (Nat.le_of_ble_eq_true rfl) rfl rfl wkX7_47 dX7_feed_20 ?_
  refine lv_if_eq (tgt := 28) hx hb dX7_feed_23 rfl (fun hc => ?_) (fun hc => ?_)
  · have hf := ite_t hf hc
    refine lv_aload_n hx hb dX7_feed_28 rfl (lv_at hl 0 rfl) ?_
    refine s_getR (k := 13) (t := 168) E hU hB.1 sc9 (slt hsh hn 157 rfl) rfl inlX7 (Nat.le_of_ble_eq_true rfl) rfl rfl wkX7_41 (hsh.1 157 13 168 rfl) dX7_feed_29 ?_
    refine lv_aload_n hx hb dX7_feed_32 rfl (lv_at hl 0 rfl) ?_
    refine s_getI (k := 15) E hU hB.1 sc9 (slt hsh hn 157 rfl) rfl inlX7 (Nat.le_of_ble_eq_true rfl) rfl rfl wkX7_192 dX7_feed_33 ?_
    refine lv_iload_n hx hb dX7_feed_36 rfl (lv_at hl 1 rfl) ?_
    refine s_iast E hU hB (slt hsh hn 168 rfl) rfl dX7_feed_37 hf (fun v2 hf H locs hB => ?_)
    refine lv_aload_n hx hb dX7_feed_38 rfl (lv_at hl 0 rfl) ?_
    refine lv_dup hx hb dX7_feed_39 rfl ?_
    refine s_getI (k := 15) E hU hB.1 sc9 (slt hsh hn 157 rfl) rfl inlX7 (Nat.le_of_ble_eq_true rfl) rfl rfl wkX7_192 dX7_feed_40 ?_
    refine lv_iconst (v := 1) hx hb dX7_feed_43 rfl ?_
    refine lv_iadd hx hb dX7_feed_44 ?_
    refine s_putI (k := 15) (ty1 := .int) E hU hB sc9 (slt hsh hn 157 rfl) rfl inlX7 (Nat.le_of_ble_eq_true rfl) rfl rfl wkX7_192 rfl rfl rfl rfl dX7_feed_45 hf (fun v3 hf H locs hB => ?_)
    refine lv_aload_n hx hb dX7_feed_48 rfl (lv_at hl 0 rfl) ?_
    refine s_getI (k := 15) E hU hB.1 sc9 (slt hsh hn 157 rfl) rfl inlX7 (Nat.le_of_ble_eq_true rfl) rfl rfl wkX7_192 dX7_feed_49 ?_
    exact s_iretW E hrt hlocks hB hf dX7_feed_52
  · have hf := ite_f hf hc
    refine lv_iconst (v := 0) hx hb dX7_feed_26 rfl ?_
    exact s_iretW E hrt hlocks hB hf dX7_feed_27
set_option maxRecDepth 100000 in
set_option maxHeartbeats 4000000 in
theorem mX7_feed (l : Launch) (D : va_G) (G : Nat → ClassId) (ad : Nat → Nat) (r : sR) (v : sV) (n : Nat) (x : Int64 × UInt64) (hsh : sSh r) (hn : 172 ≤ n) (x1 : Int32) : sMI l yX7_feed (.code yX7_feed cX7_feed 2 (some .int) :: wsL_law) rmX7_feed D G ad r v n x [.ref (ad 157), .int x1] (fX7_feed x1 v) := by
  intro sz res hf
  refine Met.ofW (cc := cX7_feed) (maxL := 2) (ret := (some .int)) (by decide) rfl ?_
  intro p e s m args below meth c s₁ B hml hv
  obtain ⟨rfl, rfl, hU, hP, hD⟩ := hv
  have hx := B.exec
  have hb := B.bytes
  have hrt := B.returns
  have hts : ∀ w ∈ wsL_law, w.before _ s = true := fun w hw => atoms_spec (ws := .code yX7_feed cX7_feed 2 (some .int) :: wsL_law) B.pre w (List.mem_cons_of_mem _ hw)
  have hlocks := B.notSynchronized
  have E : CallFix p m c cX7_feed 2 s ([.ref (ad 157), .int x1] : List Value).toArray wsL_law RX7 := ⟨hx, hb, hml, findClass_of_methodNamed B.named, hts⟩
  have hB : sB D G (sA ad r n s.heap.size) s.heap ad r v n x s.heap [] := ⟨hP, sD_self hD, va_S.rf⟩
  have hl := lv_entry ([.ref (ad 157), .int x1]) (n := 2) (Nat.le_of_ble_eq_true rfl)
  rw [lg_entry_eq]
  generalize (lg_sl ([.ref (ad 157), .int x1]) ++ List.replicate (2 - (lg_sl ([.ref (ad 157), .int x1])).length) Slot.unset).toArray = ls at hl ⊢
  have hl : lv_has ls 2 [(0, .ref (ad 157)), (1, .int x1)] := hl
  have hf := (fX7_feed.eq_1 ..).symm.trans hf
  refine lv_aload_n hx hb dX7_feed_0 rfl (lv_at hl 0 rfl) ?_
  refine lv_aload_n hx hb dX7_feed_1 rfl (lv_at hl 0 rfl) ?_
  refine s_getI (k := 15) E hU hB.1 sc9 (slt hsh hn 157 rfl) rfl inlX7 (Nat.le_of_ble_eq_true rfl) rfl rfl wkX7_192 dX7_feed_2 ?_
  refine lv_sipush (v := 150) hx hb dX7_feed_5 rfl ?_
  refine lv_icmp_ne (tgt := 15) hx hb dX7_feed_8 rfl (fun hc => ?_) (fun hc => ?_)
  · have hf := ite_f hf hc
    refine lv_iconst (v := 0) hx hb dX7_feed_15 rfl ?_
    exact wX7_feed_16 E hlocks hrt hU hsh hn hB hf (lv_sub hl [0, 1] rfl)
  · have hf := ite_t hf hc
    refine lv_iconst (v := 1) hx hb dX7_feed_11 rfl ?_
    refine lv_goto (tgt := 16) hx hb dX7_feed_12 rfl ?_
    exact wX7_feed_16 E hlocks hrt hU hsh hn hB hf (lv_sub hl [0, 1] rfl)
abbrev rmX7_reads : Room := { frames := 1, cells := 0, slots := 0, locals := 22 }
set_option maxRecDepth 100000 in
set_option maxHeartbeats 4000000 in
theorem wX7_reads_88 {K : Nat} {x1 : Int32} {x2 : Int32} {x3 : Int32} {k28 : Int32 → Int32 → Int32 → sV → Option (Int32 × sV)} {res : (Int32 × sV)} (E : CallFix p m c cX7_reads 4 s args wsL_law RX7) (hlocks : meth.locks = false) (hrt : meth.sig.returnType = (some .int)) (hU : sU D G s) (hsh : sSh r) (hn : 172 ≤ n) {v : sV} {H : Heap} {locs : List Loc} (hB : sB D G (sA ad r n s.heap.size) s.heap ad r v n x H locs) (ih28 : ∀ (x1 : Int32) (x2 : Int32) (x3 : Int32) (v : sV) (H : Heap) (locs : List Loc) (ls : Array Slot), k28 x1 x2 x3 v = some res → sB D G (sA ad r n s.heap.size) s.heap ad r v n x H locs → lv_has ls 4 [(0, .ref (ad 157)), (1, .int x1), (2, .int x2), (3, .int x3)] → W p l e rmX7_reads s m args below meth c H locs 0 0 (MQ below (sQI D G ad r n x s.heap.size res) args s 0 0 (sA ad r n s.heap.size)) (F0 m 28 ls [])) {ls : Array Slot} (hf : bX7_reads_88 K k28 x1 x2 x3 v = some res) (hl : lv_has ls 4 [(0, .ref (ad 157)), (1, .int x1), (2, .int x2), (3, .int x3)]) :
    W p l e rmX7_reads s m args below meth c H locs 0 0 (MQ below (sQI D G ad r n x s.heap.size res) args s 0 0 (sA ad r n s.heap.size)) (F0 m 88 ls []) := by
  have hx := E.1
  have hb := E.2.1
  have hts := E.2.2.2.2
  have hf := (bX7_reads_88.eq_1 ..).symm.trans hf
  refine lv_iload_n hx hb dX7_reads_88 rfl (lv_at hl 1 rfl) ?_
  refine lv_bipush (v := 14) hx hb dX7_reads_89 rfl ?_
  refine lv_icmp_ge (tgt := 134) hx hb dX7_reads_91 rfl (fun hc => ?_) (fun hc => ?_)
  · have hf := ite_t hf hc
    refine lv_iload_n hx hb dX7_reads_134 rfl (lv_at hl 3 rfl) ?_
    exact s_iretW E hrt hlocks hB hf dX7_reads_135
  · have hf := ite_f hf hc
    refine lv_aload_n hx hb dX7_reads_94 rfl (lv_at hl 0 rfl) ?_
    refine s_getR (k := 14) (t := 169) E hU hB.1 sc9 (slt hsh hn 157 rfl) rfl inlX7 (Nat.le_of_ble_eq_true rfl) rfl rfl wkX7_44 (hsh.1 157 14 169 rfl) dX7_reads_95 ?_
    refine lv_iload_n hx hb dX7_reads_98 rfl (lv_at hl 1 rfl) ?_
    refine lv_iload_n hx hb dX7_reads_99 rfl (lv_at hl 2 rfl) ?_
    refine sc_R hf (rS_S (As := [.int x1, .int x2]) (rest := [.ref (ad 169)]) E (mX7_cellAt l x1 x2) (cwGS 2 okX7_cellAt wmX7_66 hts rfl rfl ⟨Nat.le_of_ble_eq_true rfl, Nat.le_of_ble_eq_true rfl⟩) rfl hl.1 (Nat.le_of_ble_eq_true rfl) dX7_reads_100 ⟨Nat.zero_le _, Nat.zero_le _⟩ rfl) (fun y3 hf => ?_)
    refine lv_aload_n hx hb dX7_reads_103 rfl (lv_at hl 0 rfl) ?_
    refine s_getR (k := 13) (t := 168) E hU hB.1 sc9 (slt hsh hn 157 rfl) rfl inlX7 (Nat.le_of_ble_eq_true rfl) rfl rfl wkX7_41 (hsh.1 157 13 168 rfl) dX7_reads_104 ?_
    refine lv_iload_n hx hb dX7_reads_107 rfl (lv_at hl 3 rfl) ?_
    refine s_iald E hU hB.1 (slt hsh hn 168 rfl) rfl dX7_reads_108 hf (fun y4 hf => ?_)
    refine lv_bipush (v := 35) hx hb dX7_reads_109 rfl ?_
    refine lv_icmp_ne (tgt := 118) hx hb dX7_reads_111 rfl (fun hc => ?_) (fun hc => ?_)
    · have hf := ite_f hf hc
      refine lv_aload_n hx hb dX7_reads_118 rfl (lv_at hl 0 rfl) ?_
      refine s_getR (k := 13) (t := 168) E hU hB.1 sc9 (slt hsh hn 157 rfl) rfl inlX7 (Nat.le_of_ble_eq_true rfl) rfl rfl wkX7_41 (hsh.1 157 13 168 rfl) dX7_reads_119 ?_
      refine lv_iload_n hx hb dX7_reads_122 rfl (lv_at hl 3 rfl) ?_
      refine s_iald E hU hB.1 (slt hsh hn 168 rfl) rfl dX7_reads_123 hf (fun y5 hf => ?_)
      refine lv_bipush (v := 48) hx hb dX7_reads_124 rfl ?_
      refine lv_isub hx hb dX7_reads_126 ?_
      refine s_iast E hU hB (slt hsh hn 169 rfl) rfl dX7_reads_127 hf (fun v6 hf H locs hB => ?_)
      obtain ⟨z7, ez9, hf⟩ := nm_x hf
      refine lv_iinc (v := z7) (lv' := [(1, .int z7), (0, .ref (ad 157)), (2, .int x2), (3, .int x3)]) hx hb dX7_reads_128 hl (k := 1) rfl (by rw [ez9]; rfl) (Nat.le_of_ble_eq_true rfl) rfl (fun ls hl => ?_)
      refine lv_goto (tgt := 136) hx hb dX7_reads_131 rfl ?_
      obtain ⟨z8, ez9, hf⟩ := nm_x hf
      refine lv_iinc (v := z8) (lv' := [(3, .int z8), (1, .int z7), (0, .ref (ad 157)), (2, .int x2)]) hx hb dX7_reads_136 hl (k := 3) rfl (by rw [ez9]; rfl) (Nat.le_of_ble_eq_true rfl) rfl (fun ls hl => ?_)
      refine lv_goto (tgt := 28) hx hb dX7_reads_139 rfl ?_
      exact ih28 _ _ _ _ _ _ _ hf hB (lv_sub hl [2, 1, 3, 0] rfl)
    · have hf := ite_t hf hc
      refine lv_iconst (v := 0) hx hb dX7_reads_114 rfl ?_
      refine lv_goto (tgt := 127) hx hb dX7_reads_115 rfl ?_
      refine s_iast E hU hB (slt hsh hn 169 rfl) rfl dX7_reads_127 hf (fun v9 hf H locs hB => ?_)
      obtain ⟨z10, ez9, hf⟩ := nm_x hf
      refine lv_iinc (v := z10) (lv' := [(1, .int z10), (0, .ref (ad 157)), (2, .int x2), (3, .int x3)]) hx hb dX7_reads_128 hl (k := 1) rfl (by rw [ez9]; rfl) (Nat.le_of_ble_eq_true rfl) rfl (fun ls hl => ?_)
      refine lv_goto (tgt := 136) hx hb dX7_reads_131 rfl ?_
      obtain ⟨z11, ez9, hf⟩ := nm_x hf
      refine lv_iinc (v := z11) (lv' := [(3, .int z11), (1, .int z10), (0, .ref (ad 157)), (2, .int x2)]) hx hb dX7_reads_136 hl (k := 3) rfl (by rw [ez9]; rfl) (Nat.le_of_ble_eq_true rfl) rfl (fun ls hl => ?_)
      refine lv_goto (tgt := 28) hx hb dX7_reads_139 rfl ?_
      exact ih28 _ _ _ _ _ _ _ hf hB (lv_sub hl [2, 1, 3, 0] rfl)
set_option maxRecDepth 100000 in
set_option maxHeartbeats 4000000 in
theorem wX7_reads_61 {K : Nat} {x1 : Int32} {x2 : Int32} {x3 : Int32} {k28 : Int32 → Int32 → Int32 → sV → Option (Int32 × sV)} {res : (Int32 × sV)} (E : CallFix p m c cX7_reads 4 s args wsL_law RX7) (hlocks : meth.locks = false) (hrt : meth.sig.returnType = (some .int)) (hU : sU D G s) (hsh : sSh r) (hn : 172 ≤ n) {v : sV} {H : Heap} {locs : List Loc} (hB : sB D G (sA ad r n s.heap.size) s.heap ad r v n x H locs) (ih28 : ∀ (x1 : Int32) (x2 : Int32) (x3 : Int32) (v : sV) (H : Heap) (locs : List Loc) (ls : Array Slot), k28 x1 x2 x3 v = some res → sB D G (sA ad r n s.heap.size) s.heap ad r v n x H locs → lv_has ls 4 [(0, .ref (ad 157)), (1, .int x1), (2, .int x2), (3, .int x3)] → W p l e rmX7_reads s m args below meth c H locs 0 0 (MQ below (sQI D G ad r n x s.heap.size res) args s 0 0 (sA ad r n s.heap.size)) (F0 m 28 ls [])) {ls : Array Slot} (hf : bX7_reads_61 K k28 x1 x2 x3 v = some res) (hl : lv_has ls 4 [(0, .ref (ad 157)), (1, .int x1), (2, .int x2), (3, .int x3)]) :
    W p l e rmX7_reads s m args below meth c H locs 0 0 (MQ below (sQI D G ad r n x s.heap.size res) args s 0 0 (sA ad r n s.heap.size)) (F0 m 61 ls []) := by
  have hx := E.1
  have hb := E.2.1
  have hts := E.2.2.2.2
  have hf := (bX7_reads_61.eq_1 ..).symm.trans hf
  refine lv_aload_n hx hb dX7_reads_61 rfl (lv_at hl 0 rfl) ?_
  refine s_getR (k := 13) (t := 168) E hU hB.1 sc9 (slt hsh hn 157 rfl) rfl inlX7 (Nat.le_of_ble_eq_true rfl) rfl rfl wkX7_41 (hsh.1 157 13 168 rfl) dX7_reads_62 ?_
  refine lv_iload_n hx hb dX7_reads_65 rfl (lv_at hl 3 rfl) ?_
  refine s_iald E hU hB.1 (slt hsh hn 168 rfl) rfl dX7_reads_66 hf (fun y2 hf => ?_)
  refine lv_bipush (v := 35) hx hb dX7_reads_67 rfl ?_
  refine lv_icmp_eq (tgt := 88) hx hb dX7_reads_69 rfl (fun hc => ?_) (fun hc => ?_)
  · have hf := ite_t hf hc
    exact wX7_reads_88 E hlocks hrt hU hsh hn hB ih28 hf (lv_sub hl [0, 1, 2, 3] rfl)
  · have hf := ite_f hf hc
    refine lv_aload_n hx hb dX7_reads_72 rfl (lv_at hl 0 rfl) ?_
    refine s_getR (k := 13) (t := 168) E hU hB.1 sc9 (slt hsh hn 157 rfl) rfl inlX7 (Nat.le_of_ble_eq_true rfl) rfl rfl wkX7_41 (hsh.1 157 13 168 rfl) dX7_reads_73 ?_
    refine lv_iload_n hx hb dX7_reads_76 rfl (lv_at hl 3 rfl) ?_
    refine s_iald E hU hB.1 (slt hsh hn 168 rfl) rfl dX7_reads_77 hf (fun y12 hf => ?_)
    refine lv_bipush (v := 49) hx hb dX7_reads_78 rfl ?_
    refine lv_bipush (v := 57) hx hb dX7_reads_80 rfl ?_
    refine sc_R hf (rS_S (As := [.int y12, .int 49, .int 57]) (rest := []) E (mX7_isIn l y12 49 57) (cwGS 3 okX7_isIn wmX7_51 hts rfl rfl ⟨Nat.le_of_ble_eq_true rfl, Nat.le_of_ble_eq_true rfl⟩) rfl hl.1 (Nat.le_of_ble_eq_true rfl) dX7_reads_82 ⟨Nat.zero_le _, Nat.zero_le _⟩ rfl) (fun y13 hf => ?_)
    refine lv_if_eq (tgt := 134) hx hb dX7_reads_85 rfl (fun hc => ?_) (fun hc => ?_)
    · have hf := ite_t hf hc
      refine lv_iload_n hx hb dX7_reads_134 rfl (lv_at hl 3 rfl) ?_
      exact s_iretW E hrt hlocks hB hf dX7_reads_135
    · have hf := ite_f hf hc
      exact wX7_reads_88 E hlocks hrt hU hsh hn hB ih28 hf (lv_sub hl [0, 1, 2, 3] rfl)
set_option maxRecDepth 100000 in
set_option maxHeartbeats 4000000 in
theorem lX7_reads_28 {K : Nat} {res : (Int32 × sV)} (E : CallFix p m c cX7_reads 4 s args wsL_law RX7) (hlocks : meth.locks = false) (hrt : meth.sig.returnType = (some .int)) (hU : sU D G s) (hsh : sSh r) (hn : 172 ≤ n) :
    ∀ (k : Nat) (x1 : Int32) (x2 : Int32) (x3 : Int32) (v : sV) (H : Heap) (locs : List Loc) (ls : Array Slot), fx4 (gX7_reads_28 K) k x1 x2 x3 v = some res → sB D G (sA ad r n s.heap.size) s.heap ad r v n x H locs → lv_has ls 4 [(0, .ref (ad 157)), (1, .int x1), (2, .int x2), (3, .int x3)] → W p l e rmX7_reads s m args below meth c H locs 0 0 (MQ below (sQI D G ad r n x s.heap.size res) args s 0 0 (sA ad r n s.heap.size)) (F0 m 28 ls []) := by
  have hx := E.1
  have hb := E.2.1
  have hts := E.2.2.2.2
  intro k
  induction k with
  | zero =>
    intro x1 x2 x3 v H locs ls hf hB hl
    exact fx4_z hf
  | succ k ih =>
    intro x1 x2 x3 v H locs ls hf hB hl
    have hf := (gX7_reads_28.eq_1 ..).symm.trans hf
    refine lv_iload_n hx hb dX7_reads_28 rfl (lv_at hl 3 rfl) ?_
    refine lv_aload_n hx hb dX7_reads_29 rfl (lv_at hl 0 rfl) ?_
    refine s_getI (k := 15) E hU hB.1 sc9 (slt hsh hn 157 rfl) rfl inlX7 (Nat.le_of_ble_eq_true rfl) rfl rfl wkX7_192 dX7_reads_30 ?_
    refine lv_icmp_ge (tgt := 142) hx hb dX7_reads_33 rfl (fun hc => ?_) (fun hc => ?_)
    · have hf := ite_t hf hc
      refine lv_iconst (v := (-1)) hx hb dX7_reads_142 rfl ?_
      exact s_iretW E hrt hlocks hB hf dX7_reads_143
    · have hf := ite_f hf hc
      refine lv_aload_n hx hb dX7_reads_36 rfl (lv_at hl 0 rfl) ?_
      refine s_getR (k := 13) (t := 168) E hU hB.1 sc9 (slt hsh hn 157 rfl) rfl inlX7 (Nat.le_of_ble_eq_true rfl) rfl rfl wkX7_41 (hsh.1 157 13 168 rfl) dX7_reads_37 ?_
      refine lv_iload_n hx hb dX7_reads_40 rfl (lv_at hl 3 rfl) ?_
      refine s_iald E hU hB.1 (slt hsh hn 168 rfl) rfl dX7_reads_41 hf (fun y1 hf => ?_)
      refine lv_bipush (v := 47) hx hb dX7_reads_42 rfl ?_
      refine lv_icmp_ne (tgt := 61) hx hb dX7_reads_44 rfl (fun hc => ?_) (fun hc => ?_)
      · have hf := ite_f hf hc
        exact wX7_reads_61 E hlocks hrt hU hsh hn hB ih hf (lv_sub hl [0, 1, 2, 3] rfl)
      · have hf := ite_t hf hc
        refine lv_iload_n hx hb dX7_reads_47 rfl (lv_at hl 2 rfl) ?_
        refine lv_bipush (v := 9) hx hb dX7_reads_48 rfl ?_
        refine lv_icmp_ge (tgt := 61) hx hb dX7_reads_50 rfl (fun hc => ?_) (fun hc => ?_)
        · have hf := ite_t hf hc
          exact wX7_reads_61 E hlocks hrt hU hsh hn hB ih hf (lv_sub hl [0, 1, 2, 3] rfl)
        · have hf := ite_f hf hc
          obtain ⟨z14, ez9, hf⟩ := nm_x hf
          refine lv_iinc (v := z14) (lv' := [(2, .int z14), (0, .ref (ad 157)), (1, .int x1), (3, .int x3)]) hx hb dX7_reads_53 hl (k := 2) rfl (by rw [ez9]; rfl) (Nat.le_of_ble_eq_true rfl) rfl (fun ls hl => ?_)
          refine lv_iconst (v := 0) hx hb dX7_reads_56 rfl ?_
          refine lv_istore_n (lv' := [(1, .int 0), (2, .int z14), (0, .ref (ad 157)), (3, .int x3)]) hx hb dX7_reads_57 rfl hl (Nat.le_of_ble_eq_true rfl) rfl (fun ls hl => ?_)
          refine lv_goto (tgt := 136) hx hb dX7_reads_58 rfl ?_
          obtain ⟨z15, ez9, hf⟩ := nm_x hf
          refine lv_iinc (v := z15) (lv' := [(3, .int z15), (1, .int 0), (2, .int z14), (0, .ref (ad 157))]) hx hb dX7_reads_136 hl (k := 3) rfl (by rw [ez9]; rfl) (Nat.le_of_ble_eq_true rfl) rfl (fun ls hl => ?_)
          refine lv_goto (tgt := 28) hx hb dX7_reads_139 rfl ?_
          exact ih _ _ _ _ _ _ _ hf hB (lv_sub hl [3, 1, 2, 0] rfl)
set_option maxRecDepth 100000 in
set_option maxHeartbeats 4000000 in
theorem lX7_reads_6 {K : Nat} {x1 : Int32} {x2 : Int32} {res : (Int32 × sV)} (E : CallFix p m c cX7_reads 4 s args wsL_law RX7) (hlocks : meth.locks = false) (hrt : meth.sig.returnType = (some .int)) (hU : sU D G s) (hsh : sSh r) (hn : 172 ≤ n) :
    ∀ (k : Nat) (x3 : Int32) (v : sV) (H : Heap) (locs : List Loc) (ls : Array Slot), fx2 (gX7_reads_6 K x1 x2) k x3 v = some res → sB D G (sA ad r n s.heap.size) s.heap ad r v n x H locs → lv_has ls 4 [(0, .ref (ad 157)), (1, .int x1), (2, .int x2), (3, .int x3)] → W p l e rmX7_reads s m args below meth c H locs 0 0 (MQ below (sQI D G ad r n x s.heap.size res) args s 0 0 (sA ad r n s.heap.size)) (F0 m 6 ls []) := by
  have hx := E.1
  have hb := E.2.1
  have hts := E.2.2.2.2
  intro k
  induction k with
  | zero =>
    intro x3 v H locs ls hf hB hl
    exact fx2_z hf
  | succ k ih =>
    intro x3 v H locs ls hf hB hl
    have hf := (gX7_reads_6.eq_1 ..).symm.trans hf
    refine lv_iload_n hx hb dX7_reads_6 rfl (lv_at hl 3 rfl) ?_
    refine lv_sipush (v := 140) hx hb dX7_reads_7 rfl ?_
    refine lv_icmp_ge (tgt := 26) hx hb dX7_reads_10 rfl (fun hc => ?_) (fun hc => ?_)
    · have hf := ite_t hf hc
      refine lv_iconst (v := 0) hx hb dX7_reads_26 rfl ?_
      refine lv_istore_n (lv' := [(3, .int 0), (0, .ref (ad 157)), (1, .int x1), (2, .int x2)]) hx hb dX7_reads_27 rfl hl (Nat.le_of_ble_eq_true rfl) rfl (fun ls hl => ?_)
      exact lX7_reads_28 E hlocks hrt hU hsh hn _ _ _ _ _ _ _ _ hf hB (lv_sub hl [1, 2, 3, 0] rfl)
    · have hf := ite_f hf hc
      refine lv_aload_n hx hb dX7_reads_13 rfl (lv_at hl 0 rfl) ?_
      refine s_getR (k := 14) (t := 169) E hU hB.1 sc9 (slt hsh hn 157 rfl) rfl inlX7 (Nat.le_of_ble_eq_true rfl) rfl rfl wkX7_44 (hsh.1 157 14 169 rfl) dX7_reads_14 ?_
      refine lv_iload_n hx hb dX7_reads_17 rfl (lv_at hl 3 rfl) ?_
      refine lv_iconst (v := (-1)) hx hb dX7_reads_18 rfl ?_
      refine s_iast E hU hB (slt hsh hn 169 rfl) rfl dX7_reads_19 hf (fun v16 hf H locs hB => ?_)
      obtain ⟨z17, ez9, hf⟩ := nm_x hf
      refine lv_iinc (v := z17) (lv' := [(3, .int z17), (0, .ref (ad 157)), (1, .int x1), (2, .int x2)]) hx hb dX7_reads_20 hl (k := 3) rfl (by rw [ez9]; rfl) (Nat.le_of_ble_eq_true rfl) rfl (fun ls hl => ?_)
      refine lv_goto (tgt := 6) hx hb dX7_reads_23 rfl ?_
      exact ih _ _ _ _ _ hf hB (lv_sub hl [1, 2, 3, 0] rfl)
set_option maxRecDepth 100000 in
set_option maxHeartbeats 4000000 in
theorem mX7_reads (l : Launch) (K : Nat) (D : va_G) (G : Nat → ClassId) (ad : Nat → Nat) (r : sR) (v : sV) (n : Nat) (x : Int64 × UInt64) (hsh : sSh r) (hn : 172 ≤ n) : sMI l yX7_reads (.code yX7_reads cX7_reads 4 (some .int) :: wsL_law) rmX7_reads D G ad r v n x [.ref (ad 157)] (fX7_reads K v) := by
  intro sz res hf
  refine Met.ofW (cc := cX7_reads) (maxL := 4) (ret := (some .int)) (by decide) rfl ?_
  intro p e s m args below meth c s₁ B hml hv
  obtain ⟨rfl, rfl, hU, hP, hD⟩ := hv
  have hx := B.exec
  have hb := B.bytes
  have hrt := B.returns
  have hts : ∀ w ∈ wsL_law, w.before _ s = true := fun w hw => atoms_spec (ws := .code yX7_reads cX7_reads 4 (some .int) :: wsL_law) B.pre w (List.mem_cons_of_mem _ hw)
  have hlocks := B.notSynchronized
  have E : CallFix p m c cX7_reads 4 s ([.ref (ad 157)] : List Value).toArray wsL_law RX7 := ⟨hx, hb, hml, findClass_of_methodNamed B.named, hts⟩
  have hB : sB D G (sA ad r n s.heap.size) s.heap ad r v n x s.heap [] := ⟨hP, sD_self hD, va_S.rf⟩
  have hl := lv_entry ([.ref (ad 157)]) (n := 4) (Nat.le_of_ble_eq_true rfl)
  rw [lg_entry_eq]
  generalize (lg_sl ([.ref (ad 157)]) ++ List.replicate (4 - (lg_sl ([.ref (ad 157)])).length) Slot.unset).toArray = ls at hl ⊢
  have hl : lv_has ls 4 [(0, .ref (ad 157))] := hl
  have hf := (fX7_reads.eq_1 ..).symm.trans hf
  refine lv_iconst (v := 0) hx hb dX7_reads_0 rfl ?_
  refine lv_istore_n (lv' := [(1, .int 0), (0, .ref (ad 157))]) hx hb dX7_reads_1 rfl hl (Nat.le_of_ble_eq_true rfl) rfl (fun ls hl => ?_)
  refine lv_iconst (v := 0) hx hb dX7_reads_2 rfl ?_
  refine lv_istore_n (lv' := [(2, .int 0), (1, .int 0), (0, .ref (ad 157))]) hx hb dX7_reads_3 rfl hl (Nat.le_of_ble_eq_true rfl) rfl (fun ls hl => ?_)
  refine lv_iconst (v := 0) hx hb dX7_reads_4 rfl ?_
  refine lv_istore_n (lv' := [(3, .int 0), (2, .int 0), (1, .int 0), (0, .ref (ad 157))]) hx hb dX7_reads_5 rfl hl (Nat.le_of_ble_eq_true rfl) rfl (fun ls hl => ?_)
  exact lX7_reads_6 E hlocks hrt hU hsh hn _ _ _ _ _ _ hf hB (lv_sub hl [3, 2, 1, 0] rfl)
abbrev rmX7_readMap : Room := { frames := 3, cells := 0, slots := 0, locals := 65 }
set_option maxRecDepth 100000 in
set_option maxHeartbeats 4000000 in
theorem lX7_readMap_110 {K : Nat} {x2 : Int32} {res : (Int32 × sV)} (E : CallFix p m c cX7_readMap 4 s args wsL_law RX7) (hlocks : meth.locks = false) (hrt : meth.sig.returnType = (some .int)) (hU : sU D G s) (hsh : sSh r) (hn : 172 ≤ n) :
    ∀ (k : Nat) (x3 : Int32) (v : sV) (H : Heap) (locs : List Loc) (ls : Array Slot), fx2 (gX7_readMap_110 K x2) k x3 v = some res → sB D G (sA ad r n s.heap.size) s.heap ad r v n x H locs → lv_has ls 4 [(0, .ref (ad 157)), (2, .int x2), (3, .int x3)] → W p l e rmX7_readMap s m args below meth c H locs 0 0 (MQ below (sQI D G ad r n x s.heap.size res) args s 0 0 (sA ad r n s.heap.size)) (F0 m 110 ls []) := by
  have hx := E.1
  have hb := E.2.1
  have hts := E.2.2.2.2
  intro k
  induction k with
  | zero =>
    intro x3 v H locs ls hf hB hl
    exact fx2_z hf
  | succ k ih =>
    intro x3 v H locs ls hf hB hl
    have hf := (gX7_readMap_110.eq_1 ..).symm.trans hf
    refine lv_iload_n hx hb dX7_readMap_110 rfl (lv_at hl 2 rfl) ?_
    refine lv_sipush (v := 140) hx hb dX7_readMap_111 rfl ?_
    refine lv_icmp_ge (tgt := 157) hx hb dX7_readMap_114 rfl (fun hc => ?_) (fun hc => ?_)
    · have hf := ite_t hf hc
      refine lv_aload_n hx hb dX7_readMap_157 rfl (lv_at hl 0 rfl) ?_
      refine sc_V hB (fun q h => Or.inr h) hf (fun q9 h9 => rV_W (As := []) (rest := []) E hU hB sc9 (slt hsh hn 157 rfl) rfl ((mX7_forgets l K D G ad r _ n x hsh hn) _ _ h9) (cwGV 0 okX7_forgets wmX7_73 hts rfl rfl ⟨Nat.le_of_ble_eq_true rfl, Nat.le_of_ble_eq_true rfl⟩) rfl hl.1 (Nat.le_of_ble_eq_true rfl) dX7_readMap_158 ⟨Nat.zero_le _, Nat.zero_le _⟩ rfl) (fun v6 hf H locs hB => ?_)
      refine lv_iload_n hx hb dX7_readMap_161 rfl (lv_at hl 1 rfl) ?_
      exact s_iretW E hrt hlocks hB hf dX7_readMap_162
    · have hf := ite_f hf hc
      refine lv_aload_n hx hb dX7_readMap_117 rfl (lv_at hl 0 rfl) ?_
      refine s_getR (k := 0) (t := 158) E hU hB.1 sc9 (slt hsh hn 157 rfl) rfl inlX7 (Nat.le_of_ble_eq_true rfl) rfl rfl wkX7_9 (hsh.1 157 0 158 rfl) dX7_readMap_118 ?_
      refine lv_iconst (v := 0) hx hb dX7_readMap_121 rfl ?_
      refine lv_iload_n hx hb dX7_readMap_122 rfl (lv_at hl 2 rfl) ?_
      refine lv_iadd hx hb dX7_readMap_123 ?_
      refine lv_aload_n hx hb dX7_readMap_124 rfl (lv_at hl 0 rfl) ?_
      refine s_getR (k := 14) (t := 169) E hU hB.1 sc9 (slt hsh hn 157 rfl) rfl inlX7 (Nat.le_of_ble_eq_true rfl) rfl rfl wkX7_44 (hsh.1 157 14 169 rfl) dX7_readMap_125 ?_
      refine lv_iload_n hx hb dX7_readMap_128 rfl (lv_at hl 2 rfl) ?_
      refine s_iald E hU hB.1 (slt hsh hn 169 rfl) rfl dX7_readMap_129 hf (fun y7 hf => ?_)
      refine lv_if_lt (tgt := 142) hx hb dX7_readMap_130 rfl (fun hc => ?_) (fun hc => ?_)
      · have hf := ite_t hf hc
        refine lv_aload_n hx hb dX7_readMap_142 rfl (lv_at hl 0 rfl) ?_
        refine s_getR (k := 0) (t := 158) E hU hB.1 sc9 (slt hsh hn 157 rfl) rfl inlX7 (Nat.le_of_ble_eq_true rfl) rfl rfl wkX7_9 (hsh.1 157 0 158 rfl) dX7_readMap_143 ?_
        refine lv_iconst (v := 0) hx hb dX7_readMap_146 rfl ?_
        refine lv_iload_n hx hb dX7_readMap_147 rfl (lv_at hl 2 rfl) ?_
        refine lv_iadd hx hb dX7_readMap_148 ?_
        refine s_iald E hU hB.1 (slt hsh hn 158 rfl) rfl dX7_readMap_149 hf (fun y8 hf => ?_)
        refine s_iast E hU hB (slt hsh hn 158 rfl) rfl dX7_readMap_150 hf (fun v9 hf H locs hB => ?_)
        obtain ⟨z10, ez9, hf⟩ := nm_x hf
        refine lv_iinc (v := z10) (lv' := [(3, .int z10), (0, .ref (ad 157)), (2, .int x2)]) hx hb dX7_readMap_151 hl (k := 2) rfl (by rw [ez9]; rfl) (Nat.le_of_ble_eq_true rfl) rfl (fun ls hl => ?_)
        refine lv_goto (tgt := 110) hx hb dX7_readMap_154 rfl ?_
        exact ih _ _ _ _ _ hf hB (lv_sub hl [1, 2, 0] rfl)
      · have hf := ite_f hf hc
        refine lv_aload_n hx hb dX7_readMap_133 rfl (lv_at hl 0 rfl) ?_
        refine s_getR (k := 14) (t := 169) E hU hB.1 sc9 (slt hsh hn 157 rfl) rfl inlX7 (Nat.le_of_ble_eq_true rfl) rfl rfl wkX7_44 (hsh.1 157 14 169 rfl) dX7_readMap_134 ?_
        refine lv_iload_n hx hb dX7_readMap_137 rfl (lv_at hl 2 rfl) ?_
        refine s_iald E hU hB.1 (slt hsh hn 169 rfl) rfl dX7_readMap_138 hf (fun y11 hf => ?_)
        refine lv_goto (tgt := 150) hx hb dX7_readMap_139 rfl ?_
        refine s_iast E hU hB (slt hsh hn 158 rfl) rfl dX7_readMap_150 hf (fun v12 hf H locs hB => ?_)
        obtain ⟨z13, ez9, hf⟩ := nm_x hf
        refine lv_iinc (v := z13) (lv' := [(3, .int z13), (0, .ref (ad 157)), (2, .int x2)]) hx hb dX7_readMap_151 hl (k := 2) rfl (by rw [ez9]; rfl) (Nat.le_of_ble_eq_true rfl) rfl (fun ls hl => ?_)
        refine lv_goto (tgt := 110) hx hb dX7_readMap_154 rfl ?_
        exact ih _ _ _ _ _ hf hB (lv_sub hl [1, 2, 0] rfl)
set_option maxRecDepth 100000 in
set_option maxHeartbeats 4000000 in
theorem wX7_readMap_50 {K : Nat} {x3 : Int32} {t0 : Int32} {t1 : Int32} {k28 : Int32 → Int32 → sV → Option (Int32 × sV)} {res : (Int32 × sV)} (E : CallFix p m c cX7_readMap 4 s args wsL_law RX7) (hlocks : meth.locks = false) (hrt : meth.sig.returnType = (some .int)) (hU : sU D G s) (hsh : sSh r) (hn : 172 ≤ n) {v : sV} {H : Heap} {locs : List Loc} (hB : sB D G (sA ad r n s.heap.size) s.heap ad r v n x H locs) (ih28 : ∀ (x2 : Int32) (x3 : Int32) (v : sV) (H : Heap) (locs : List Loc) (ls : Array Slot), k28 x2 x3 v = some res → sB D G (sA ad r n s.heap.size) s.heap ad r v n x H locs → lv_has ls 4 [(0, .ref (ad 157)), (2, .int x2), (3, .int x3)] → W p l e rmX7_readMap s m args below meth c H locs 0 0 (MQ below (sQI D G ad r n x s.heap.size res) args s 0 0 (sA ad r n s.heap.size)) (F0 m 28 ls [])) {ls : Array Slot} (hf : bX7_readMap_50 K k28 x3 t0 t1 v = some res) (hl : lv_has ls 4 [(0, .ref (ad 157)), (3, .int x3)]) :
    W p l e rmX7_readMap s m args below meth c H locs 0 0 (MQ below (sQI D G ad r n x s.heap.size res) args s 0 0 (sA ad r n s.heap.size)) (F0 m 50 ls [.int t1, .int t0]) := by
  have hx := E.1
  have hb := E.2.1
  have hts := E.2.2.2.2
  have hf := (bX7_readMap_50.eq_1 ..).symm.trans hf
  refine lv_iadd hx hb dX7_readMap_50 ?_
  refine s_nm hf (fun z15 hf => ?_)
  refine lv_istore_n (lv' := [(2, .int z15), (0, .ref (ad 157)), (3, .int x3)]) hx hb dX7_readMap_51 rfl hl (Nat.le_of_ble_eq_true rfl) rfl (fun ls hl => ?_)
  refine lv_aload_n hx hb dX7_readMap_52 rfl (lv_at hl 1 rfl) ?_
  refine lv_aload_n hx hb dX7_readMap_53 rfl (lv_at hl 1 rfl) ?_
  refine s_getR (k := 14) (t := 169) E hU hB.1 sc9 (slt hsh hn 157 rfl) rfl inlX7 (Nat.le_of_ble_eq_true rfl) rfl rfl wkX7_44 (hsh.1 157 14 169 rfl) dX7_readMap_54 ?_
  refine lv_iload_n hx hb dX7_readMap_57 rfl (lv_at hl 2 rfl) ?_
  refine s_iald E hU hB.1 (slt hsh hn 169 rfl) rfl dX7_readMap_58 hf (fun y16 hf => ?_)
  refine lv_if_ne (tgt := 82) hx hb dX7_readMap_59 rfl (fun hc => ?_) (fun hc => ?_)
  · have hf := ite_f hf hc
    refine lv_aload_n hx hb dX7_readMap_82 rfl (lv_at hl 1 rfl) ?_
    refine s_getI (k := 6) E hU hB.1 sc9 (slt hsh hn 157 rfl) rfl inlX7 (Nat.le_of_ble_eq_true rfl) rfl rfl wkX7_47 dX7_readMap_83 ?_
    refine s_putI (k := 6) (ty1 := .int) E hU hB sc9 (slt hsh hn 157 rfl) rfl inlX7 (Nat.le_of_ble_eq_true rfl) rfl rfl wkX7_47 rfl rfl rfl rfl dX7_readMap_86 hf (fun v17 hf H locs hB => ?_)
    obtain ⟨z18, ez9, hf⟩ := nm_x hf
    refine lv_iinc (v := z18) (lv' := [(3, .int z18), (2, .int z15), (0, .ref (ad 157))]) hx hb dX7_readMap_89 hl (k := 2) rfl (by rw [ez9]; rfl) (Nat.le_of_ble_eq_true rfl) rfl (fun ls hl => ?_)
    refine lv_goto (tgt := 28) hx hb dX7_readMap_92 rfl ?_
    exact ih28 _ _ _ _ _ _ hf hB (lv_sub hl [2, 1, 0] rfl)
  · have hf := ite_t hf hc
    refine lv_aload_n hx hb dX7_readMap_62 rfl (lv_at hl 1 rfl) ?_
    refine lv_iload_n hx hb dX7_readMap_63 rfl (lv_at hl 2 rfl) ?_
    refine sc_R hf (rV_R (As := [.int x3]) (rest := [.ref (ad 157)]) E hU hB.1 sc9 (slt hsh hn 157 rfl) rfl (mX7_hasGoal l K D G ad r _ n x hsh hn x3) (cwGV 1 okX7_hasGoal wmX7_90 hts rfl rfl ⟨Nat.le_of_ble_eq_true rfl, Nat.le_of_ble_eq_true rfl⟩) rfl hl.1 (Nat.le_of_ble_eq_true rfl) dX7_readMap_64 ⟨Nat.zero_le _, Nat.zero_le _⟩ rfl) (fun y19 hf => ?_)
    refine lv_if_ne (tgt := 78) hx hb dX7_readMap_67 rfl (fun hc => ?_) (fun hc => ?_)
    · have hf := ite_f hf hc
      refine lv_iconst (v := 1) hx hb dX7_readMap_78 rfl ?_
      refine lv_goto (tgt := 86) hx hb dX7_readMap_79 rfl ?_
      refine s_putI (k := 6) (ty1 := .int) E hU hB sc9 (slt hsh hn 157 rfl) rfl inlX7 (Nat.le_of_ble_eq_true rfl) rfl rfl wkX7_47 rfl rfl rfl rfl dX7_readMap_86 hf (fun v20 hf H locs hB => ?_)
      obtain ⟨z21, ez9, hf⟩ := nm_x hf
      refine lv_iinc (v := z21) (lv' := [(3, .int z21), (2, .int z15), (0, .ref (ad 157))]) hx hb dX7_readMap_89 hl (k := 2) rfl (by rw [ez9]; rfl) (Nat.le_of_ble_eq_true rfl) rfl (fun ls hl => ?_)
      refine lv_goto (tgt := 28) hx hb dX7_readMap_92 rfl ?_
      exact ih28 _ _ _ _ _ _ hf hB (lv_sub hl [2, 1, 0] rfl)
    · have hf := ite_t hf hc
      refine lv_aload_n hx hb dX7_readMap_70 rfl (lv_at hl 1 rfl) ?_
      refine lv_iload_n hx hb dX7_readMap_71 rfl (lv_at hl 2 rfl) ?_
      refine sc_R hf (rV_R (As := [.int x3]) (rest := [.ref (ad 157)]) E hU hB.1 sc9 (slt hsh hn 157 rfl) rfl (mX7_agentOn l K D G ad r _ n x hsh hn x3) (cwGV 1 okX7_agentOn wmX7_93 hts rfl rfl ⟨Nat.le_of_ble_eq_true rfl, Nat.le_of_ble_eq_true rfl⟩) rfl hl.1 (Nat.le_of_ble_eq_true rfl) dX7_readMap_72 ⟨Nat.zero_le _, Nat.zero_le _⟩ rfl) (fun y22 hf => ?_)
      refine lv_if_lt (tgt := 82) hx hb dX7_readMap_75 rfl (fun hc => ?_) (fun hc => ?_)
      · have hf := ite_t hf hc
        refine lv_aload_n hx hb dX7_readMap_82 rfl (lv_at hl 1 rfl) ?_
        refine s_getI (k := 6) E hU hB.1 sc9 (slt hsh hn 157 rfl) rfl inlX7 (Nat.le_of_ble_eq_true rfl) rfl rfl wkX7_47 dX7_readMap_83 ?_
        refine s_putI (k := 6) (ty1 := .int) E hU hB sc9 (slt hsh hn 157 rfl) rfl inlX7 (Nat.le_of_ble_eq_true rfl) rfl rfl wkX7_47 rfl rfl rfl rfl dX7_readMap_86 hf (fun v23 hf H locs hB => ?_)
        obtain ⟨z24, ez9, hf⟩ := nm_x hf
        refine lv_iinc (v := z24) (lv' := [(3, .int z24), (2, .int z15), (0, .ref (ad 157))]) hx hb dX7_readMap_89 hl (k := 2) rfl (by rw [ez9]; rfl) (Nat.le_of_ble_eq_true rfl) rfl (fun ls hl => ?_)
        refine lv_goto (tgt := 28) hx hb dX7_readMap_92 rfl ?_
        exact ih28 _ _ _ _ _ _ hf hB (lv_sub hl [2, 1, 0] rfl)
      · have hf := ite_f hf hc
        refine lv_iconst (v := 1) hx hb dX7_readMap_78 rfl ?_
        refine lv_goto (tgt := 86) hx hb dX7_readMap_79 rfl ?_
        refine s_putI (k := 6) (ty1 := .int) E hU hB sc9 (slt hsh hn 157 rfl) rfl inlX7 (Nat.le_of_ble_eq_true rfl) rfl rfl wkX7_47 rfl rfl rfl rfl dX7_readMap_86 hf (fun v25 hf H locs hB => ?_)
        obtain ⟨z26, ez9, hf⟩ := nm_x hf
        refine lv_iinc (v := z26) (lv' := [(3, .int z26), (2, .int z15), (0, .ref (ad 157))]) hx hb dX7_readMap_89 hl (k := 2) rfl (by rw [ez9]; rfl) (Nat.le_of_ble_eq_true rfl) rfl (fun ls hl => ?_)
        refine lv_goto (tgt := 28) hx hb dX7_readMap_92 rfl ?_
        exact ih28 _ _ _ _ _ _ hf hB (lv_sub hl [2, 1, 0] rfl)
set_option maxRecDepth 100000 in
set_option maxHeartbeats 4000000 in
theorem lX7_readMap_28 {K : Nat} {res : (Int32 × sV)} (E : CallFix p m c cX7_readMap 4 s args wsL_law RX7) (hlocks : meth.locks = false) (hrt : meth.sig.returnType = (some .int)) (hU : sU D G s) (hsh : sSh r) (hn : 172 ≤ n) :
    ∀ (k : Nat) (x2 : Int32) (x3 : Int32) (v : sV) (H : Heap) (locs : List Loc) (ls : Array Slot), fx3 (gX7_readMap_28 K) k x2 x3 v = some res → sB D G (sA ad r n s.heap.size) s.heap ad r v n x H locs → lv_has ls 4 [(0, .ref (ad 157)), (2, .int x2), (3, .int x3)] → W p l e rmX7_readMap s m args below meth c H locs 0 0 (MQ below (sQI D G ad r n x s.heap.size res) args s 0 0 (sA ad r n s.heap.size)) (F0 m 28 ls []) := by
  have hx := E.1
  have hb := E.2.1
  have hts := E.2.2.2.2
  intro k
  induction k with
  | zero =>
    intro x2 x3 v H locs ls hf hB hl
    exact fx3_z hf
  | succ k ih =>
    intro x2 x3 v H locs ls hf hB hl
    have hf := (gX7_readMap_28.eq_1 ..).symm.trans hf
    refine lv_iload_n hx hb dX7_readMap_28 rfl (lv_at hl 2 rfl) ?_
    refine lv_sipush (v := 140) hx hb dX7_readMap_29 rfl ?_
    refine lv_icmp_ge (tgt := 95) hx hb dX7_readMap_32 rfl (fun hc => ?_) (fun hc => ?_)
    · have hf := ite_t hf hc
      refine lv_aload_n hx hb dX7_readMap_95 rfl (lv_at hl 0 rfl) ?_
      refine s_getI (k := 6) E hU hB.1 sc9 (slt hsh hn 157 rfl) rfl inlX7 (Nat.le_of_ble_eq_true rfl) rfl rfl wkX7_47 dX7_readMap_96 ?_
      refine lv_if_eq (tgt := 104) hx hb dX7_readMap_99 rfl (fun hc => ?_) (fun hc => ?_)
      · have hf := ite_t hf hc
        refine lv_aload_n hx hb dX7_readMap_104 rfl (lv_at hl 0 rfl) ?_
        refine sc_V hB (fun q h => Or.inr h) hf (fun q9 h9 => rV_W (As := []) (rest := []) E hU hB sc9 (slt hsh hn 157 rfl) rfl ((mX7_keeps l K D G ad r _ n x hsh hn) _ _ h9) (cwGV 0 okX7_keeps wmX7_96 hts rfl rfl ⟨Nat.le_of_ble_eq_true rfl, Nat.le_of_ble_eq_true rfl⟩) rfl hl.1 (Nat.le_of_ble_eq_true rfl) dX7_readMap_105 ⟨Nat.zero_le _, Nat.zero_le _⟩ rfl) (fun v5 hf H locs hB => ?_)
        refine lv_iconst (v := 0) hx hb dX7_readMap_108 rfl ?_
        refine lv_istore_n (lv' := [(3, .int 0), (0, .ref (ad 157)), (2, .int x2)]) hx hb dX7_readMap_109 rfl hl (Nat.le_of_ble_eq_true rfl) rfl (fun ls hl => ?_)
        exact lX7_readMap_110 E hlocks hrt hU hsh hn _ _ _ _ _ _ hf hB (lv_sub hl [1, 2, 0] rfl)
      · have hf := ite_f hf hc
        refine lv_iconst (v := 0) hx hb dX7_readMap_102 rfl ?_
        exact s_iretW E hrt hlocks hB hf dX7_readMap_103
    · have hf := ite_f hf hc
      refine lv_iload_n hx hb dX7_readMap_35 rfl (lv_at hl 1 rfl) ?_
      refine lv_aload_n hx hb dX7_readMap_36 rfl (lv_at hl 0 rfl) ?_
      refine s_getR (k := 14) (t := 169) E hU hB.1 sc9 (slt hsh hn 157 rfl) rfl inlX7 (Nat.le_of_ble_eq_true rfl) rfl rfl wkX7_44 (hsh.1 157 14 169 rfl) dX7_readMap_37 ?_
      refine lv_iload_n hx hb dX7_readMap_40 rfl (lv_at hl 2 rfl) ?_
      refine s_iald E hU hB.1 (slt hsh hn 169 rfl) rfl dX7_readMap_41 hf (fun y14 hf => ?_)
      refine lv_if_lt (tgt := 49) hx hb dX7_readMap_42 rfl (fun hc => ?_) (fun hc => ?_)
      · have hf := ite_t hf hc
        refine lv_iconst (v := 0) hx hb dX7_readMap_49 rfl ?_
        exact wX7_readMap_50 E hlocks hrt hU hsh hn hB ih hf (lv_sub hl [0, 2] rfl)
      · have hf := ite_f hf hc
        refine lv_iconst (v := 1) hx hb dX7_readMap_45 rfl ?_
        refine lv_goto (tgt := 50) hx hb dX7_readMap_46 rfl ?_
        exact wX7_readMap_50 E hlocks hrt hU hsh hn hB ih hf (lv_sub hl [0, 2] rfl)
set_option maxRecDepth 100000 in
set_option maxHeartbeats 4000000 in
theorem mX7_readMap (l : Launch) (K : Nat) (D : va_G) (G : Nat → ClassId) (ad : Nat → Nat) (r : sR) (v : sV) (n : Nat) (x : Int64 × UInt64) (hsh : sSh r) (hn : 172 ≤ n) : sMI l yX7_readMap (.code yX7_readMap cX7_readMap 4 (some .int) :: wsL_law) rmX7_readMap D G ad r v n x [.ref (ad 157)] (fX7_readMap K v) := by
  intro sz res hf
  refine Met.ofW (cc := cX7_readMap) (maxL := 4) (ret := (some .int)) (by decide) rfl ?_
  intro p e s m args below meth c s₁ B hml hv
  obtain ⟨rfl, rfl, hU, hP, hD⟩ := hv
  have hx := B.exec
  have hb := B.bytes
  have hrt := B.returns
  have hts : ∀ w ∈ wsL_law, w.before _ s = true := fun w hw => atoms_spec (ws := .code yX7_readMap cX7_readMap 4 (some .int) :: wsL_law) B.pre w (List.mem_cons_of_mem _ hw)
  have hlocks := B.notSynchronized
  have E : CallFix p m c cX7_readMap 4 s ([.ref (ad 157)] : List Value).toArray wsL_law RX7 := ⟨hx, hb, hml, findClass_of_methodNamed B.named, hts⟩
  have hB : sB D G (sA ad r n s.heap.size) s.heap ad r v n x s.heap [] := ⟨hP, sD_self hD, va_S.rf⟩
  have hl := lv_entry ([.ref (ad 157)]) (n := 4) (Nat.le_of_ble_eq_true rfl)
  rw [lg_entry_eq]
  generalize (lg_sl ([.ref (ad 157)]) ++ List.replicate (4 - (lg_sl ([.ref (ad 157)])).length) Slot.unset).toArray = ls at hl ⊢
  have hl : lv_has ls 4 [(0, .ref (ad 157))] := hl
  have hf := (fX7_readMap.eq_1 ..).symm.trans hf
  refine lv_aload_n hx hb dX7_readMap_0 rfl (lv_at hl 0 rfl) ?_
  refine lv_iconst (v := 0) hx hb dX7_readMap_1 rfl ?_
  refine s_putI (k := 6) (ty1 := .int) E hU hB sc9 (slt hsh hn 157 rfl) rfl inlX7 (Nat.le_of_ble_eq_true rfl) rfl rfl wkX7_47 rfl rfl rfl rfl dX7_readMap_2 hf (fun v1 hf H locs hB => ?_)
  refine lv_aload_n hx hb dX7_readMap_5 rfl (lv_at hl 0 rfl) ?_
  refine sc_I hB (fun q h => Or.inr h) hf (fun q9 h9 => rV_W (As := []) (rest := []) E hU hB sc9 (slt hsh hn 157 rfl) rfl ((mX7_reads l K D G ad r _ n x hsh hn) _ _ h9) (cwGV 0 okX7_reads wmX7_195 hts rfl rfl ⟨Nat.le_of_ble_eq_true rfl, Nat.le_of_ble_eq_true rfl⟩) rfl hl.1 (Nat.le_of_ble_eq_true rfl) dX7_readMap_6 ⟨Nat.zero_le _, Nat.zero_le _⟩ rfl) (fun y3 v2 hf H locs hB => ?_)
  refine lv_istore_n (lv' := [(1, .int y3), (0, .ref (ad 157))]) hx hb dX7_readMap_9 rfl hl (Nat.le_of_ble_eq_true rfl) rfl (fun ls hl => ?_)
  refine lv_aload_n hx hb dX7_readMap_10 rfl (lv_at hl 1 rfl) ?_
  refine lv_iconst (v := 0) hx hb dX7_readMap_11 rfl ?_
  refine s_putI (k := 15) (ty1 := .int) E hU hB sc9 (slt hsh hn 157 rfl) rfl inlX7 (Nat.le_of_ble_eq_true rfl) rfl rfl wkX7_192 rfl rfl rfl rfl dX7_readMap_12 hf (fun v4 hf H locs hB => ?_)
  refine lv_iload_n hx hb dX7_readMap_15 rfl (lv_at hl 0 rfl) ?_
  refine lv_if_lt (tgt := 24) hx hb dX7_readMap_16 rfl (fun hc => ?_) (fun hc => ?_)
  · have hf := ite_t hf hc
    refine lv_iconst (v := 0) hx hb dX7_readMap_24 rfl ?_
    refine lv_istore_n (lv' := [(2, .int 0), (1, .int y3), (0, .ref (ad 157))]) hx hb dX7_readMap_25 rfl hl (Nat.le_of_ble_eq_true rfl) rfl (fun ls hl => ?_)
    refine lv_iconst (v := 0) hx hb dX7_readMap_26 rfl ?_
    refine lv_istore_n (lv' := [(3, .int 0), (2, .int 0), (1, .int y3), (0, .ref (ad 157))]) hx hb dX7_readMap_27 rfl hl (Nat.le_of_ble_eq_true rfl) rfl (fun ls hl => ?_)
    exact lX7_readMap_28 E hlocks hrt hU hsh hn _ _ _ _ _ _ _ hf hB (lv_sub hl [3, 1, 0] rfl)
  · have hf := ite_f hf hc
    refine lv_bipush (v := (-100)) hx hb dX7_readMap_19 rfl ?_
    refine lv_iload_n hx hb dX7_readMap_21 rfl (lv_at hl 0 rfl) ?_
    refine lv_isub hx hb dX7_readMap_22 ?_
    exact s_iretW E hrt hlocks hB hf dX7_readMap_23
abbrev rmX7_map : Room := { frames := 1, cells := 0, slots := 0, locals := 22 }
set_option maxRecDepth 100000 in
set_option maxHeartbeats 4000000 in
theorem wX7_map_59 {t0 : Int32} {res : (Int32 × sV)} (E : CallFix p m c cX7_map 4 s args wsL_law RX7) (hlocks : meth.locks = false) (hrt : meth.sig.returnType = (some .char)) (hU : sU D G s) (hsh : sSh r) (hn : 172 ≤ n) {v : sV} {H : Heap} {locs : List Loc} (hB : sB D G (sA ad r n s.heap.size) s.heap ad r v n x H locs) {ls : Array Slot} (hf : bX7_map_59 t0 v = some res) (hl : lv_has ls 4 []) :
    W p l e rmX7_map s m args below meth c H locs 0 0 (MQ below (sQI D G ad r n x s.heap.size res) args s 0 0 (sA ad r n s.heap.size)) (F0 m 59 ls [.int t0]) := by
  have hx := E.1
  have hb := E.2.1
  have hts := E.2.2.2.2
  have hf := (bX7_map_59.eq_1 ..).symm.trans hf
  refine lv_istore_n (lv' := [(3, .int t0)]) hx hb dX7_map_59 rfl hl (Nat.le_of_ble_eq_true rfl) rfl (fun ls hl => ?_)
  refine lv_iload_n hx hb dX7_map_60 rfl (lv_at hl 0 rfl) ?_
  refine lv_if_ge (tgt := 69) hx hb dX7_map_61 rfl (fun hc => ?_) (fun hc => ?_)
  · have hf := ite_t hf hc
    refine lv_iload_n hx hb dX7_map_69 rfl (lv_at hl 0 rfl) ?_
    refine lv_if_ne (tgt := 78) hx hb dX7_map_70 rfl (fun hc => ?_) (fun hc => ?_)
    · have hf := ite_f hf hc
      refine lv_bipush (v := 48) hx hb dX7_map_78 rfl ?_
      refine lv_iload_n hx hb dX7_map_80 rfl (lv_at hl 0 rfl) ?_
      refine lv_iadd hx hb dX7_map_81 ?_
      refine lv_i2c hx hb dX7_map_82 rfl ?_
      obtain ⟨hc9, hf⟩ := ckc_e hf
      exact s_zretW E hrt hlocks hB (nc_of hc9) hf dX7_map_83
    · have hf := ite_t hf hc
      refine lv_bipush (v := 35) hx hb dX7_map_73 rfl ?_
      refine lv_goto (tgt := 83) hx hb dX7_map_75 rfl ?_
      exact s_zretW E hrt hlocks hB rfl hf dX7_map_83
  · have hf := ite_f hf hc
    refine lv_bipush (v := 47) hx hb dX7_map_64 rfl ?_
    refine lv_goto (tgt := 83) hx hb dX7_map_66 rfl ?_
    exact s_zretW E hrt hlocks hB rfl hf dX7_map_83
set_option maxRecDepth 100000 in
set_option maxHeartbeats 4000000 in
theorem wX7_map_17 {x1 : Int32} {t1 : Int32} {res : (Int32 × sV)} (E : CallFix p m c cX7_map 4 s args wsL_law RX7) (hlocks : meth.locks = false) (hrt : meth.sig.returnType = (some .char)) (hU : sU D G s) (hsh : sSh r) (hn : 172 ≤ n) {v : sV} {H : Heap} {locs : List Loc} (hB : sB D G (sA ad r n s.heap.size) s.heap ad r v n x H locs) {ls : Array Slot} (hf : bX7_map_17 x1 t1 v = some res) (hl : lv_has ls 4 [(0, .ref (ad 157)), (1, .int x1)]) :
    W p l e rmX7_map s m args below meth c H locs 0 0 (MQ below (sQI D G ad r n x s.heap.size res) args s 0 0 (sA ad r n s.heap.size)) (F0 m 17 ls [.int t1, .ref (ad 157)]) := by
  have hx := E.1
  have hb := E.2.1
  have hts := E.2.2.2.2
  have hf := (bX7_map_17.eq_1 ..).symm.trans hf
  refine s_putI (k := 6) (ty1 := .int) E hU hB sc9 (slt hsh hn 157 rfl) rfl inlX7 (Nat.le_of_ble_eq_true rfl) rfl rfl wkX7_47 rfl rfl rfl rfl dX7_map_17 hf (fun v2 hf H locs hB => ?_)
  refine lv_aload_n hx hb dX7_map_20 rfl (lv_at hl 0 rfl) ?_
  refine s_getI (k := 6) E hU hB.1 sc9 (slt hsh hn 157 rfl) rfl inlX7 (Nat.le_of_ble_eq_true rfl) rfl rfl wkX7_47 dX7_map_21 ?_
  refine lv_if_eq (tgt := 29) hx hb dX7_map_24 rfl (fun hc => ?_) (fun hc => ?_)
  · have hf := ite_t hf hc
    refine lv_iload_n hx hb dX7_map_29 rfl (lv_at hl 1 rfl) ?_
    refine lv_bipush (v := 15) hx hb dX7_map_30 rfl ?_
    refine lv_irem hx hb dX7_map_32 (by decide) ?_
    refine s_nm hf (fun z3 hf => ?_)
    refine lv_istore_n (lv' := [(2, .int z3), (0, .ref (ad 157)), (1, .int x1)]) hx hb dX7_map_33 rfl hl (Nat.le_of_ble_eq_true rfl) rfl (fun ls hl => ?_)
    refine lv_iload_n hx hb dX7_map_34 rfl (lv_at hl 0 rfl) ?_
    refine lv_bipush (v := 14) hx hb dX7_map_35 rfl ?_
    refine lv_icmp_ne (tgt := 44) hx hb dX7_map_37 rfl (fun hc => ?_) (fun hc => ?_)
    · have hf := ite_f hf hc
      refine lv_aload_n hx hb dX7_map_44 rfl (lv_at hl 1 rfl) ?_
      refine s_getR (k := 0) (t := 158) E hU hB.1 sc9 (slt hsh hn 157 rfl) rfl inlX7 (Nat.le_of_ble_eq_true rfl) rfl rfl wkX7_9 (hsh.1 157 0 158 rfl) dX7_map_45 ?_
      refine lv_iconst (v := 0) hx hb dX7_map_48 rfl ?_
      refine lv_iload_n hx hb dX7_map_49 rfl (lv_at hl 0 rfl) ?_
      refine lv_iload_n hx hb dX7_map_50 rfl (lv_at hl 2 rfl) ?_
      refine lv_bipush (v := 15) hx hb dX7_map_51 rfl ?_
      refine lv_idiv hx hb dX7_map_53 (by decide) ?_
      refine sc_R hf (rS_S (As := [.int z3, .int (x1 / 15)]) (rest := [.int 0, .ref (ad 158)]) E (mX7_cellAt l z3 (x1 / 15)) (cwGS 2 okX7_cellAt wmX7_66 hts rfl rfl ⟨Nat.le_of_ble_eq_true rfl, Nat.le_of_ble_eq_true rfl⟩) rfl hl.1 (Nat.le_of_ble_eq_true rfl) dX7_map_54 ⟨Nat.zero_le _, Nat.zero_le _⟩ rfl) (fun y4 hf => ?_)
      refine lv_iadd hx hb dX7_map_57 ?_
      refine s_iald E hU hB.1 (slt hsh hn 158 rfl) rfl dX7_map_58 hf (fun y5 hf => ?_)
      exact wX7_map_59 E hlocks hrt hU hsh hn hB hf (lv_sub hl [] rfl)
    · have hf := ite_t hf hc
      refine lv_iconst (v := (-1)) hx hb dX7_map_40 rfl ?_
      refine lv_goto (tgt := 59) hx hb dX7_map_41 rfl ?_
      exact wX7_map_59 E hlocks hrt hU hsh hn hB hf (lv_sub hl [] rfl)
  · have hf := ite_f hf hc
    refine lv_iconst (v := 0) hx hb dX7_map_27 rfl ?_
    exact s_zretW E hrt hlocks hB rfl hf dX7_map_28
set_option maxRecDepth 100000 in
set_option maxHeartbeats 4000000 in
theorem mX7_map (l : Launch) (D : va_G) (G : Nat → ClassId) (ad : Nat → Nat) (r : sR) (v : sV) (n : Nat) (x : Int64 × UInt64) (hsh : sSh r) (hn : 172 ≤ n) (x1 : Int32) : sMI l yX7_map (.code yX7_map cX7_map 4 (some .char) :: wsL_law) rmX7_map D G ad r v n x [.ref (ad 157), .int x1] (fX7_map x1 v) := by
  intro sz res hf
  refine Met.ofW (cc := cX7_map) (maxL := 4) (ret := (some .char)) (by decide) rfl ?_
  intro p e s m args below meth c s₁ B hml hv
  obtain ⟨rfl, rfl, hU, hP, hD⟩ := hv
  have hx := B.exec
  have hb := B.bytes
  have hrt := B.returns
  have hts : ∀ w ∈ wsL_law, w.before _ s = true := fun w hw => atoms_spec (ws := .code yX7_map cX7_map 4 (some .char) :: wsL_law) B.pre w (List.mem_cons_of_mem _ hw)
  have hlocks := B.notSynchronized
  have E : CallFix p m c cX7_map 4 s ([.ref (ad 157), .int x1] : List Value).toArray wsL_law RX7 := ⟨hx, hb, hml, findClass_of_methodNamed B.named, hts⟩
  have hB : sB D G (sA ad r n s.heap.size) s.heap ad r v n x s.heap [] := ⟨hP, sD_self hD, va_S.rf⟩
  have hl := lv_entry ([.ref (ad 157), .int x1]) (n := 4) (Nat.le_of_ble_eq_true rfl)
  rw [lg_entry_eq]
  generalize (lg_sl ([.ref (ad 157), .int x1]) ++ List.replicate (4 - (lg_sl ([.ref (ad 157), .int x1])).length) Slot.unset).toArray = ls at hl ⊢
  have hl : lv_has ls 4 [(0, .ref (ad 157)), (1, .int x1)] := hl
  have hf := (fX7_map.eq_1 ..).symm.trans hf
  refine lv_aload_n hx hb dX7_map_0 rfl (lv_at hl 0 rfl) ?_
  refine lv_iload_n hx hb dX7_map_1 rfl (lv_at hl 1 rfl) ?_
  refine lv_iconst (v := 0) hx hb dX7_map_2 rfl ?_
  refine lv_sipush (v := 148) hx hb dX7_map_3 rfl ?_
  refine sc_R hf (rS_S (As := [.int x1, .int 0, .int 148]) (rest := [.ref (ad 157)]) E (mX7_isIn l x1 0 148) (cwGS 3 okX7_isIn wmX7_51 hts rfl rfl ⟨Nat.le_of_ble_eq_true rfl, Nat.le_of_ble_eq_true rfl⟩) rfl hl.1 (Nat.le_of_ble_eq_true rfl) dX7_map_6 ⟨Nat.zero_le _, Nat.zero_le _⟩ rfl) (fun y1 hf => ?_)
  refine lv_if_eq (tgt := 16) hx hb dX7_map_9 rfl (fun hc => ?_) (fun hc => ?_)
  · have hf := ite_t hf hc
    refine lv_iconst (v := 1) hx hb dX7_map_16 rfl ?_
    exact wX7_map_17 E hlocks hrt hU hsh hn hB hf (lv_sub hl [0, 1] rfl)
  · have hf := ite_f hf hc
    refine lv_iconst (v := 0) hx hb dX7_map_12 rfl ?_
    refine lv_goto (tgt := 17) hx hb dX7_map_13 rfl ?_
    exact wX7_map_17 E hlocks hrt hU hsh hn hB hf (lv_sub hl [0, 1] rfl)
abbrev rmX7_save : Room := { frames := 3, cells := 0, slots := 0, locals := 65 }
set_option maxRecDepth 100000 in
set_option maxHeartbeats 4000000 in
theorem lX7_save_7 {K : Nat} {res : (Int32 × sV)} (E : CallFix p m c cX7_save 2 s args wsL_law RX7) (hlocks : meth.locks = false) (hrt : meth.sig.returnType = (some .int)) (hU : sU D G s) (hsh : sSh r) (hn : 172 ≤ n) :
    ∀ (k : Nat) (x1 : Int32) (v : sV) (H : Heap) (locs : List Loc) (ls : Array Slot), fx2 (gX7_save_7 K) k x1 v = some res → sB D G (sA ad r n s.heap.size) s.heap ad r v n x H locs → lv_has ls 2 [(0, .ref (ad 157)), (1, .int x1)] → W p l e rmX7_save s m args below meth c H locs 0 0 (MQ below (sQI D G ad r n x s.heap.size res) args s 0 0 (sA ad r n s.heap.size)) (F0 m 7 ls []) := by
  have hx := E.1
  have hb := E.2.1
  have hts := E.2.2.2.2
  intro k
  induction k with
  | zero =>
    intro x1 v H locs ls hf hB hl
    exact fx2_z hf
  | succ k ih =>
    intro x1 v H locs ls hf hB hl
    have hf := (gX7_save_7.eq_1 ..).symm.trans hf
    refine lv_iload_n hx hb dX7_save_7 rfl (lv_at hl 1 rfl) ?_
    refine lv_sipush (v := 434) hx hb dX7_save_8 rfl ?_
    refine lv_icmp_ge (tgt := 32) hx hb dX7_save_11 rfl (fun hc => ?_) (fun hc => ?_)
    · have hf := ite_t hf hc
      refine lv_aload_n hx hb dX7_save_32 rfl (lv_at hl 0 rfl) ?_
      refine lv_iconst (v := 1) hx hb dX7_save_33 rfl ?_
      refine s_putI (k := 4) (ty1 := .boolean) E hU hB sc9 (slt hsh hn 157 rfl) rfl inlX7 (Nat.le_of_ble_eq_true rfl) rfl rfl wkX7_198 rfl rfl rfl rfl dX7_save_34 hf (fun v2 hf H locs hB => ?_)
      refine lv_aload_n hx hb dX7_save_37 rfl (lv_at hl 0 rfl) ?_
      refine sc_R hf (rV_R (As := []) (rest := []) E hU hB.1 sc9 (slt hsh hn 157 rfl) rfl (mX7_many l K D G ad r _ n x hsh hn) (cwGV 0 okX7_many wmX7_115 hts rfl rfl ⟨Nat.le_of_ble_eq_true rfl, Nat.le_of_ble_eq_true rfl⟩) rfl hl.1 (Nat.le_of_ble_eq_true rfl) dX7_save_38 ⟨Nat.zero_le _, Nat.zero_le _⟩ rfl) (fun y3 hf => ?_)
      exact s_iretW E hrt hlocks hB hf dX7_save_41
    · have hf := ite_f hf hc
      refine lv_aload_n hx hb dX7_save_14 rfl (lv_at hl 0 rfl) ?_
      refine s_getR (k := 1) (t := 159) E hU hB.1 sc9 (slt hsh hn 157 rfl) rfl inlX7 (Nat.le_of_ble_eq_true rfl) rfl rfl wkX7_13 (hsh.1 157 1 159 rfl) dX7_save_15 ?_
      refine lv_iload_n hx hb dX7_save_18 rfl (lv_at hl 1 rfl) ?_
      refine lv_aload_n hx hb dX7_save_19 rfl (lv_at hl 0 rfl) ?_
      refine s_getR (k := 0) (t := 158) E hU hB.1 sc9 (slt hsh hn 157 rfl) rfl inlX7 (Nat.le_of_ble_eq_true rfl) rfl rfl wkX7_9 (hsh.1 157 0 158 rfl) dX7_save_20 ?_
      refine lv_iload_n hx hb dX7_save_23 rfl (lv_at hl 1 rfl) ?_
      refine s_iald E hU hB.1 (slt hsh hn 158 rfl) rfl dX7_save_24 hf (fun y4 hf => ?_)
      refine s_iast E hU hB (slt hsh hn 159 rfl) rfl dX7_save_25 hf (fun v5 hf H locs hB => ?_)
      obtain ⟨z6, ez9, hf⟩ := nm_x hf
      refine lv_iinc (v := z6) (lv' := [(1, .int z6), (0, .ref (ad 157))]) hx hb dX7_save_26 hl (k := 1) rfl (by rw [ez9]; rfl) (Nat.le_of_ble_eq_true rfl) rfl (fun ls hl => ?_)
      refine lv_goto (tgt := 7) hx hb dX7_save_29 rfl ?_
      exact ih _ _ _ _ _ hf hB (lv_sub hl [1, 0] rfl)
set_option maxRecDepth 100000 in
set_option maxHeartbeats 4000000 in
theorem mX7_save (l : Launch) (K : Nat) (D : va_G) (G : Nat → ClassId) (ad : Nat → Nat) (r : sR) (v : sV) (n : Nat) (x : Int64 × UInt64) (hsh : sSh r) (hn : 172 ≤ n) : sMI l yX7_save (.code yX7_save cX7_save 2 (some .int) :: wsL_law) rmX7_save D G ad r v n x [.ref (ad 157)] (fX7_save K v) := by
  intro sz res hf
  refine Met.ofW (cc := cX7_save) (maxL := 2) (ret := (some .int)) (by decide) rfl ?_
  intro p e s m args below meth c s₁ B hml hv
  obtain ⟨rfl, rfl, hU, hP, hD⟩ := hv
  have hx := B.exec
  have hb := B.bytes
  have hrt := B.returns
  have hts : ∀ w ∈ wsL_law, w.before _ s = true := fun w hw => atoms_spec (ws := .code yX7_save cX7_save 2 (some .int) :: wsL_law) B.pre w (List.mem_cons_of_mem _ hw)
  have hlocks := B.notSynchronized
  have E : CallFix p m c cX7_save 2 s ([.ref (ad 157)] : List Value).toArray wsL_law RX7 := ⟨hx, hb, hml, findClass_of_methodNamed B.named, hts⟩
  have hB : sB D G (sA ad r n s.heap.size) s.heap ad r v n x s.heap [] := ⟨hP, sD_self hD, va_S.rf⟩
  have hl := lv_entry ([.ref (ad 157)]) (n := 2) (Nat.le_of_ble_eq_true rfl)
  rw [lg_entry_eq]
  generalize (lg_sl ([.ref (ad 157)]) ++ List.replicate (2 - (lg_sl ([.ref (ad 157)])).length) Slot.unset).toArray = ls at hl ⊢
  have hl : lv_has ls 2 [(0, .ref (ad 157))] := hl
  have hf := (fX7_save.eq_1 ..).symm.trans hf
  refine lv_aload_n hx hb dX7_save_0 rfl (lv_at hl 0 rfl) ?_
  refine lv_iconst (v := 0) hx hb dX7_save_1 rfl ?_
  refine s_putI (k := 6) (ty1 := .int) E hU hB sc9 (slt hsh hn 157 rfl) rfl inlX7 (Nat.le_of_ble_eq_true rfl) rfl rfl wkX7_47 rfl rfl rfl rfl dX7_save_2 hf (fun v1 hf H locs hB => ?_)
  refine lv_iconst (v := 0) hx hb dX7_save_5 rfl ?_
  refine lv_istore_n (lv' := [(1, .int 0), (0, .ref (ad 157))]) hx hb dX7_save_6 rfl hl (Nat.le_of_ble_eq_true rfl) rfl (fun ls hl => ?_)
  exact lX7_save_7 E hlocks hrt hU hsh hn _ _ _ _ _ _ hf hB (lv_sub hl [1, 0] rfl)
abbrev rmX7_restore : Room := { frames := 3, cells := 0, slots := 0, locals := 65 }
set_option maxRecDepth 100000 in
set_option maxHeartbeats 4000000 in
theorem lX7_restore_27 {K : Nat} {res : (Int32 × sV)} (E : CallFix p m c cX7_restore 2 s args wsL_law RX7) (hlocks : meth.locks = false) (hrt : meth.sig.returnType = (some .int)) (hU : sU D G s) (hsh : sSh r) (hn : 172 ≤ n) :
    ∀ (k : Nat) (x1 : Int32) (v : sV) (H : Heap) (locs : List Loc) (ls : Array Slot), fx2 (gX7_restore_27 K) k x1 v = some res → sB D G (sA ad r n s.heap.size) s.heap ad r v n x H locs → lv_has ls 2 [(0, .ref (ad 157)), (1, .int x1)] → W p l e rmX7_restore s m args below meth c H locs 0 0 (MQ below (sQI D G ad r n x s.heap.size res) args s 0 0 (sA ad r n s.heap.size)) (F0 m 27 ls []) := by
  have hx := E.1
  have hb := E.2.1
  have hts := E.2.2.2.2
  intro k
  induction k with
  | zero =>
    intro x1 v H locs ls hf hB hl
    exact fx2_z hf
  | succ k ih =>
    intro x1 v H locs ls hf hB hl
    have hf := (gX7_restore_27.eq_1 ..).symm.trans hf
    refine lv_iload_n hx hb dX7_restore_27 rfl (lv_at hl 1 rfl) ?_
    refine lv_sipush (v := 434) hx hb dX7_restore_28 rfl ?_
    refine lv_icmp_ge (tgt := 52) hx hb dX7_restore_31 rfl (fun hc => ?_) (fun hc => ?_)
    · have hf := ite_t hf hc
      refine lv_aload_n hx hb dX7_restore_52 rfl (lv_at hl 0 rfl) ?_
      refine lv_iconst (v := 0) hx hb dX7_restore_53 rfl ?_
      refine s_putI (k := 5) (ty1 := .int) E hU hB sc9 (slt hsh hn 157 rfl) rfl inlX7 (Nat.le_of_ble_eq_true rfl) rfl rfl wkX7_70 rfl rfl rfl rfl dX7_restore_54 hf (fun v2 hf H locs hB => ?_)
      refine lv_aload_n hx hb dX7_restore_57 rfl (lv_at hl 0 rfl) ?_
      refine sc_V hB (fun q h => Or.inr h) hf (fun q9 h9 => rV_W (As := []) (rest := []) E hU hB sc9 (slt hsh hn 157 rfl) rfl ((mX7_forgets l K D G ad r _ n x hsh hn) _ _ h9) (cwGV 0 okX7_forgets wmX7_73 hts rfl rfl ⟨Nat.le_of_ble_eq_true rfl, Nat.le_of_ble_eq_true rfl⟩) rfl hl.1 (Nat.le_of_ble_eq_true rfl) dX7_restore_58 ⟨Nat.zero_le _, Nat.zero_le _⟩ rfl) (fun v3 hf H locs hB => ?_)
      refine lv_aload_n hx hb dX7_restore_61 rfl (lv_at hl 0 rfl) ?_
      refine sc_R hf (rV_R (As := []) (rest := []) E hU hB.1 sc9 (slt hsh hn 157 rfl) rfl (mX7_many l K D G ad r _ n x hsh hn) (cwGV 0 okX7_many wmX7_115 hts rfl rfl ⟨Nat.le_of_ble_eq_true rfl, Nat.le_of_ble_eq_true rfl⟩) rfl hl.1 (Nat.le_of_ble_eq_true rfl) dX7_restore_62 ⟨Nat.zero_le _, Nat.zero_le _⟩ rfl) (fun y4 hf => ?_)
      exact s_iretW E hrt hlocks hB hf dX7_restore_65
    · have hf := ite_f hf hc
      refine lv_aload_n hx hb dX7_restore_34 rfl (lv_at hl 0 rfl) ?_
      refine s_getR (k := 0) (t := 158) E hU hB.1 sc9 (slt hsh hn 157 rfl) rfl inlX7 (Nat.le_of_ble_eq_true rfl) rfl rfl wkX7_9 (hsh.1 157 0 158 rfl) dX7_restore_35 ?_
      refine lv_iload_n hx hb dX7_restore_38 rfl (lv_at hl 1 rfl) ?_
      refine lv_aload_n hx hb dX7_restore_39 rfl (lv_at hl 0 rfl) ?_
      refine s_getR (k := 1) (t := 159) E hU hB.1 sc9 (slt hsh hn 157 rfl) rfl inlX7 (Nat.le_of_ble_eq_true rfl) rfl rfl wkX7_13 (hsh.1 157 1 159 rfl) dX7_restore_40 ?_
      refine lv_iload_n hx hb dX7_restore_43 rfl (lv_at hl 1 rfl) ?_
      refine s_iald E hU hB.1 (slt hsh hn 159 rfl) rfl dX7_restore_44 hf (fun y5 hf => ?_)
      refine s_iast E hU hB (slt hsh hn 158 rfl) rfl dX7_restore_45 hf (fun v6 hf H locs hB => ?_)
      obtain ⟨z7, ez9, hf⟩ := nm_x hf
      refine lv_iinc (v := z7) (lv' := [(1, .int z7), (0, .ref (ad 157))]) hx hb dX7_restore_46 hl (k := 1) rfl (by rw [ez9]; rfl) (Nat.le_of_ble_eq_true rfl) rfl (fun ls hl => ?_)
      refine lv_goto (tgt := 27) hx hb dX7_restore_49 rfl ?_
      exact ih _ _ _ _ _ hf hB (lv_sub hl [1, 0] rfl)
set_option maxRecDepth 100000 in
set_option maxHeartbeats 4000000 in
theorem wX7_restore_13 {K : Nat} {t1 : Int32} {res : (Int32 × sV)} (E : CallFix p m c cX7_restore 2 s args wsL_law RX7) (hlocks : meth.locks = false) (hrt : meth.sig.returnType = (some .int)) (hU : sU D G s) (hsh : sSh r) (hn : 172 ≤ n) {v : sV} {H : Heap} {locs : List Loc} (hB : sB D G (sA ad r n s.heap.size) s.heap ad r v n x H locs) {ls : Array Slot} (hf : bX7_restore_13 K t1 v = some res) (hl : lv_has ls 2 [(0, .ref (ad 157))]) :
    W p l e rmX7_restore s m args below meth c H locs 0 0 (MQ below (sQI D G ad r n x s.heap.size res) args s 0 0 (sA ad r n s.heap.size)) (F0 m 13 ls [.int t1, .ref (ad 157)]) := by
  have hx := E.1
  have hb := E.2.1
  have hts := E.2.2.2.2
  have hf := (bX7_restore_13.eq_1 ..).symm.trans hf
  refine s_putI (k := 6) (ty1 := .int) E hU hB sc9 (slt hsh hn 157 rfl) rfl inlX7 (Nat.le_of_ble_eq_true rfl) rfl rfl wkX7_47 rfl rfl rfl rfl dX7_restore_13 hf (fun v1 hf H locs hB => ?_)
  refine lv_aload_n hx hb dX7_restore_16 rfl (lv_at hl 0 rfl) ?_
  refine s_getI (k := 6) E hU hB.1 sc9 (slt hsh hn 157 rfl) rfl inlX7 (Nat.le_of_ble_eq_true rfl) rfl rfl wkX7_47 dX7_restore_17 ?_
  refine lv_if_eq (tgt := 25) hx hb dX7_restore_20 rfl (fun hc => ?_) (fun hc => ?_)
  · have hf := ite_t hf hc
    refine lv_iconst (v := 0) hx hb dX7_restore_25 rfl ?_
    refine lv_istore_n (lv' := [(1, .int 0), (0, .ref (ad 157))]) hx hb dX7_restore_26 rfl hl (Nat.le_of_ble_eq_true rfl) rfl (fun ls hl => ?_)
    exact lX7_restore_27 E hlocks hrt hU hsh hn _ _ _ _ _ _ hf hB (lv_sub hl [1, 0] rfl)
  · have hf := ite_f hf hc
    refine lv_iconst (v := 0) hx hb dX7_restore_23 rfl ?_
    exact s_iretW E hrt hlocks hB hf dX7_restore_24
set_option maxRecDepth 100000 in
set_option maxHeartbeats 4000000 in
theorem mX7_restore (l : Launch) (K : Nat) (D : va_G) (G : Nat → ClassId) (ad : Nat → Nat) (r : sR) (v : sV) (n : Nat) (x : Int64 × UInt64) (hsh : sSh r) (hn : 172 ≤ n) : sMI l yX7_restore (.code yX7_restore cX7_restore 2 (some .int) :: wsL_law) rmX7_restore D G ad r v n x [.ref (ad 157)] (fX7_restore K v) := by
  intro sz res hf
  refine Met.ofW (cc := cX7_restore) (maxL := 2) (ret := (some .int)) (by decide) rfl ?_
  intro p e s m args below meth c s₁ B hml hv
  obtain ⟨rfl, rfl, hU, hP, hD⟩ := hv
  have hx := B.exec
  have hb := B.bytes
  have hrt := B.returns
  have hts : ∀ w ∈ wsL_law, w.before _ s = true := fun w hw => atoms_spec (ws := .code yX7_restore cX7_restore 2 (some .int) :: wsL_law) B.pre w (List.mem_cons_of_mem _ hw)
  have hlocks := B.notSynchronized
  have E : CallFix p m c cX7_restore 2 s ([.ref (ad 157)] : List Value).toArray wsL_law RX7 := ⟨hx, hb, hml, findClass_of_methodNamed B.named, hts⟩
  have hB : sB D G (sA ad r n s.heap.size) s.heap ad r v n x s.heap [] := ⟨hP, sD_self hD, va_S.rf⟩
  have hl := lv_entry ([.ref (ad 157)]) (n := 2) (Nat.le_of_ble_eq_true rfl)
  rw [lg_entry_eq]
  generalize (lg_sl ([.ref (ad 157)]) ++ List.replicate (2 - (lg_sl ([.ref (ad 157)])).length) Slot.unset).toArray = ls at hl ⊢
  have hl : lv_has ls 2 [(0, .ref (ad 157))] := hl
  have hf := (fX7_restore.eq_1 ..).symm.trans hf
  refine lv_aload_n hx hb dX7_restore_0 rfl (lv_at hl 0 rfl) ?_
  refine lv_aload_n hx hb dX7_restore_1 rfl (lv_at hl 0 rfl) ?_
  refine s_getI (k := 4) E hU hB.1 sc9 (slt hsh hn 157 rfl) rfl inlX7 (Nat.le_of_ble_eq_true rfl) rfl rfl wkX7_198 dX7_restore_2 ?_
  refine lv_if_eq (tgt := 12) hx hb dX7_restore_5 rfl (fun hc => ?_) (fun hc => ?_)
  · have hf := ite_t hf hc
    refine lv_iconst (v := 1) hx hb dX7_restore_12 rfl ?_
    exact wX7_restore_13 E hlocks hrt hU hsh hn hB hf (lv_sub hl [0] rfl)
  · have hf := ite_f hf hc
    refine lv_iconst (v := 0) hx hb dX7_restore_8 rfl ?_
    refine lv_goto (tgt := 13) hx hb dX7_restore_9 rfl ?_
    exact wX7_restore_13 E hlocks hrt hU hsh hn hB hf (lv_sub hl [0] rfl)
abbrev rmJ7_fill_53178 : Room := { frames := 0, cells := 0, slots := 0, locals := 0 }
set_option maxRecDepth 100000 in
set_option maxHeartbeats 4000000 in
theorem lJ7_fill_53178_5 {K : Nat} {a0 : Nat} {N0 : Nat} {x1 : Int32} {x3 : Int32} {res : sV} (E : CallFix p m c cJ7_fill_53178 4 s args wsL_law RJ7) (hlocks : meth.locks = false) (hrt : meth.sig.returnType = none) (hU : sU D G s) (hk0 : sks a0 = (10, N0)) (hl0 : lv r n a0) :
    ∀ (k : Nat) (x2 : Int32) (v : sV) (H : Heap) (locs : List Loc) (ls : Array Slot), fx2 (gJ7_fill_53178_5 K a0 N0 x1 x3) k x2 v = some res → sB D G (sA ad r n s.heap.size) s.heap ad r v n x H locs → lv_has ls 4 [(0, .ref (ad a0)), (1, .int x1), (2, .int x2), (3, .int x3)] → W p l e rmJ7_fill_53178 s m args below meth c H locs 0 0 (MQ below (sQV D G ad r n x s.heap.size res) args s 0 0 (sA ad r n s.heap.size)) (F0 m 5 ls []) := by
  have hx := E.1
  have hb := E.2.1
  have hts := E.2.2.2.2
  intro k
  induction k with
  | zero =>
    intro x2 v H locs ls hf hB hl
    exact fx2_z hf
  | succ k ih =>
    intro x2 v H locs ls hf hB hl
    have hf := (gJ7_fill_53178_5.eq_1 ..).symm.trans hf
    refine lv_iload_n hx hb dJ7_fill_53178_5 rfl (lv_at hl 2 rfl) ?_
    refine lv_iload_n hx hb dJ7_fill_53178_6 rfl (lv_at hl 3 rfl) ?_
    refine lv_icmp_ge (tgt := 20) hx hb dJ7_fill_53178_7 rfl (fun hc => ?_) (fun hc => ?_)
    · have hf := ite_t hf hc
      exact s_vretW E hrt hlocks hB hf dJ7_fill_53178_20
    · have hf := ite_f hf hc
      refine lv_aload_n hx hb dJ7_fill_53178_10 rfl (lv_at hl 0 rfl) ?_
      refine lv_iload_n hx hb dJ7_fill_53178_11 rfl (lv_at hl 2 rfl) ?_
      refine lv_iload_n hx hb dJ7_fill_53178_12 rfl (lv_at hl 1 rfl) ?_
      refine s_iast E hU hB hl0 hk0 dJ7_fill_53178_13 hf (fun v2 hf H locs hB => ?_)
      obtain ⟨z3, ez9, hf⟩ := nm_x hf
      refine lv_iinc (v := z3) (lv' := [(2, .int z3), (0, .ref (ad a0)), (1, .int x1), (3, .int x3)]) hx hb dJ7_fill_53178_14 hl (k := 2) rfl (by rw [ez9]; rfl) (Nat.le_of_ble_eq_true rfl) rfl (fun ls hl => ?_)
      refine lv_goto (tgt := 5) hx hb dJ7_fill_53178_17 rfl ?_
      exact ih _ _ _ _ _ hf hB (lv_sub hl [1, 2, 0, 3] rfl)
set_option maxRecDepth 100000 in
set_option maxHeartbeats 4000000 in
theorem mJ7_fill_53178 (l : Launch) (K : Nat) (D : va_G) (G : Nat → ClassId) (ad : Nat → Nat) (r : sR) (v : sV) (n : Nat) (x : Int64 × UInt64) (a0 : Nat) (N0 : Nat) (hk0 : sks a0 = (10, N0)) (hl0 : lv r n a0) (x1 : Int32) : sMV l yJ7_fill_53178 (.code yJ7_fill_53178 cJ7_fill_53178 4 none :: wsL_law) rmJ7_fill_53178 D G ad r v n x [.ref (ad a0), .int x1] (fJ7_fill_53178 K a0 N0 x1 v) := by
  intro sz res hf
  refine Met.ofW (cc := cJ7_fill_53178) (maxL := 4) (ret := none) (by decide) rfl ?_
  intro p e s m args below meth c s₁ B hml hv
  obtain ⟨rfl, rfl, hU, hP, hD⟩ := hv
  have hx := B.exec
  have hb := B.bytes
  have hrt := B.returns
  have hts : ∀ w ∈ wsL_law, w.before _ s = true := fun w hw => atoms_spec (ws := .code yJ7_fill_53178 cJ7_fill_53178 4 none :: wsL_law) B.pre w (List.mem_cons_of_mem _ hw)
  have hlocks := B.notSynchronized
  have E : CallFix p m c cJ7_fill_53178 4 s ([.ref (ad a0), .int x1] : List Value).toArray wsL_law RJ7 := ⟨hx, hb, hml, findClass_of_methodNamed B.named, hts⟩
  have hB : sB D G (sA ad r n s.heap.size) s.heap ad r v n x s.heap [] := ⟨hP, sD_self hD, va_S.rf⟩
  have hl := lv_entry ([.ref (ad a0), .int x1]) (n := 4) (Nat.le_of_ble_eq_true rfl)
  rw [lg_entry_eq]
  generalize (lg_sl ([.ref (ad a0), .int x1]) ++ List.replicate (4 - (lg_sl ([.ref (ad a0), .int x1])).length) Slot.unset).toArray = ls at hl ⊢
  have hl : lv_has ls 4 [(0, .ref (ad a0)), (1, .int x1)] := hl
  have hf := (fJ7_fill_53178.eq_1 ..).symm.trans hf
  refine lv_iconst (v := 0) hx hb dJ7_fill_53178_0 rfl ?_
  refine lv_istore_n (lv' := [(2, .int 0), (0, .ref (ad a0)), (1, .int x1)]) hx hb dJ7_fill_53178_1 rfl hl (Nat.le_of_ble_eq_true rfl) rfl (fun ls hl => ?_)
  refine lv_aload_n hx hb dJ7_fill_53178_2 rfl (lv_at hl 1 rfl) ?_
  refine s_alen E hU hB.1 hl0 hk0 dJ7_fill_53178_3 ?_
  refine s_nm hf (fun z1 hf => ?_)
  refine lv_istore_n (lv' := [(3, .int z1), (2, .int 0), (0, .ref (ad a0)), (1, .int x1)]) hx hb dJ7_fill_53178_4 rfl hl (Nat.le_of_ble_eq_true rfl) rfl (fun ls hl => ?_)
  exact lJ7_fill_53178_5 E hlocks hrt hU hk0 hl0 _ _ _ _ _ _ hf hB (lv_sub hl [2, 3, 1, 0] rfl)
end
