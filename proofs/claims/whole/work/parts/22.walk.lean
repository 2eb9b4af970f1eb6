section
variable {p : Program} {l : Launch} {e : Env} {s : State} {m : MethodId} {args : Array Value} {below : List Frame} {meth : Method} {c : Code}
variable {D : va_G} {G : Nat → ClassId} {ad : Nat → Nat} {r : sR} {n : Nat} {x : Int64 × UInt64}
abbrev rmX7_apart : Room := { frames := 1, cells := 0, slots := 0, locals := 21 }
set_option maxRecDepth 100000 in
set_option maxHeartbeats 4000000 in
theorem mX7_apart (l : Launch) (x0 : Int32) (x1 : Int32) : sMS l yX7_apart (.code yX7_apart cX7_apart 2 (some .int) :: wsL_law) rmX7_apart [.int x0, .int x1] (fX7_apart x0 x1) := by
  intro res hf
  refine Met.ofW (cc := cX7_apart) (maxL := 2) (ret := (some .int)) (by decide) rfl ?_
  intro p e s m args below meth c s₁ B hml hv
  obtain ⟨rfl, -⟩ := hv
  have hx := B.exec
  have hb := B.bytes
  have hrt := B.returns
  have hts : ∀ w ∈ wsL_law, w.before _ s = true := fun w hw => atoms_spec (ws := .code yX7_apart cX7_apart 2 (some .int) :: wsL_law) B.pre w (List.mem_cons_of_mem _ hw)
  have hlocks := B.notSynchronized
  have E : CallFix p m c cX7_apart 2 s ([.int x0, .int x1] : List Value).toArray wsL_law RX7 := ⟨hx, hb, hml, findClass_of_methodNamed B.named, hts⟩
  have hl := lv_entry ([.int x0, .int x1]) (n := 2) (Nat.le_of_ble_eq_true rfl)
  rw [lg_entry_eq]
  generalize (lg_sl ([.int x0, .int x1]) ++ List.replicate (2 - (lg_sl ([.int x0, .int x1])).length) Slot.unset).toArray = ls at hl ⊢
  have hl : lv_has ls 2 [(0, .int x0), (1, .int x1)] := hl
  have hf := (fX7_apart.eq_1 ..).symm.trans hf
  refine lv_iload_n hx hb dX7_apart_0 rfl (lv_at hl 0 rfl) ?_
  refine sc_R hf (rS_S (As := [.int x0]) (rest := []) E (mX7_columnOf l x0) (cwGS 1 okX7_columnOf wmX7_55 hts rfl rfl ⟨Nat.le_of_ble_eq_true rfl, Nat.le_of_ble_eq_true rfl⟩) rfl hl.1 (Nat.le_of_ble_eq_true rfl) dX7_apart_1 ⟨Nat.zero_le _, Nat.zero_le _⟩ rfl) (fun y1 hf => ?_)
  refine lv_iload_n hx hb dX7_apart_4 rfl (lv_at hl 1 rfl) ?_
  refine sc_R hf (rS_S (As := [.int x1]) (rest := [.int y1]) E (mX7_columnOf l x1) (cwGS 1 okX7_columnOf wmX7_55 hts rfl rfl ⟨Nat.le_of_ble_eq_true rfl, Nat.le_of_ble_eq_true rfl⟩) rfl hl.1 (Nat.le_of_ble_eq_true rfl) dX7_apart_5 ⟨Nat.zero_le _, Nat.zero_le _⟩ rfl) (fun y2 hf => ?_)
  refine lv_isub hx hb dX7_apart_8 ?_
  refine va_mabs hx hb (E.2.2.1.trans hl.1.symm) E.2.2.2.1 (hts _ wmX7_138) (hts _ wst_abs) (hts _ wini_math) (hts _ wcd_abs) (Nat.le_of_ble_eq_true rfl) (Nat.le_of_ble_eq_true rfl) (Nat.zero_le _) (Nat.zero_le _) dX7_apart_9 ?_
  refine lv_iload_n hx hb dX7_apart_12 rfl (lv_at hl 0 rfl) ?_
  refine sc_R hf (rS_S (As := [.int x0]) (rest := [.int (if 0 ≤ (y1 - y2) then (y1 - y2) else 0 - (y1 - y2))]) E (mX7_rowOf l x0) (cwGS 1 okX7_rowOf wmX7_59 hts rfl rfl ⟨Nat.le_of_ble_eq_true rfl, Nat.le_of_ble_eq_true rfl⟩) rfl hl.1 (Nat.le_of_ble_eq_true rfl) dX7_apart_13 ⟨Nat.zero_le _, Nat.zero_le _⟩ rfl) (fun y3 hf => ?_)
  refine lv_iload_n hx hb dX7_apart_16 rfl (lv_at hl 1 rfl) ?_
  refine sc_R hf (rS_S (As := [.int x1]) (rest := [.int y3, .int (if 0 ≤ (y1 - y2) then (y1 - y2) else 0 - (y1 - y2))]) E (mX7_rowOf l x1) (cwGS 1 okX7_rowOf wmX7_59 hts rfl rfl ⟨Nat.le_of_ble_eq_true rfl, Nat.le_of_ble_eq_true rfl⟩) rfl hl.1 (Nat.le_of_ble_eq_true rfl) dX7_apart_17 ⟨Nat.zero_le _, Nat.zero_le _⟩ rfl) (fun y4 hf => ?_)
  refine lv_isub hx hb dX7_apart_20 ?_
  refine va_mabs hx hb (E.2.2.1.trans hl.1.symm) E.2.2.2.1 (hts _ wmX7_138) (hts _ wst_abs) (hts _ wini_math) (hts _ wcd_abs) (Nat.le_of_ble_eq_true rfl) (Nat.le_of_ble_eq_true rfl) (Nat.zero_le _) (Nat.zero_le _) dX7_apart_21 ?_
  refine lv_iadd hx hb dX7_apart_24 ?_
  exact s_iretR E hrt hlocks hf dX7_apart_25
abbrev rmX7_disorder : Room := { frames := 3, cells := 0, slots := 0, locals := 73 }
set_option maxRecDepth 100000 in
set_option maxHeartbeats 4000000 in
theorem lX7_disorder_33 {K : Nat} {x1 : Int32} {res : (Int32 × sV)} (E : CallFix p m c cX7_disorder 4 s args wsL_law RX7) (hlocks : meth.locks = false) (hrt : meth.sig.returnType = (some .int)) (hU : sU D G s) (hsh : sSh r) (hn : 172 ≤ n) {v : sV} {H : Heap} {locs : List Loc} (hB : sB D G (sA ad r n s.heap.size) s.heap ad r v n x H locs) :
    ∀ (k : Nat) (x2 : Int32) (x3 : Int32) (ls : Array Slot), fx2 (gX7_disorder_33 K x1 v) k x2 x3 = some res → lv_has ls 4 [(0, .ref (ad 157)), (1, .int x1), (2, .int x2), (3, .int x3)] → W p l e rmX7_disorder s m args below meth c H locs 0 0 (MQ below (sQI D G ad r n x s.heap.size res) args s 0 0 (sA ad r n s.heap.size)) (F0 m 33 ls []) := by
  have hx := E.1
  have hb := E.2.1
  have hts := E.2.2.2.2
  intro k
  induction k with
  | zero =>
    intro x2 x3 ls hf hl
    exact fx2_z hf
  | succ k ih =>
    intro x2 x3 ls hf hl
    have hf := (gX7_disorder_33.eq_1 ..).symm.trans hf
    refine lv_iload_n hx hb dX7_disorder_33 rfl (lv_at hl 3 rfl) ?_
    refine lv_bipush (v := 16) hx hb dX7_disorder_34 rfl ?_
    refine lv_icmp_ge (tgt := 92) hx hb dX7_disorder_36 rfl (fun hc => ?_) (fun hc => ?_)
    · have hf := ite_t hf hc
      refine lv_iload_n hx hb dX7_disorder_92 rfl (lv_at hl 2 rfl) ?_
      exact s_iretW E hrt hlocks hB hf dX7_disorder_93
    · have hf := ite_f hf hc
      refine lv_aload_n hx hb dX7_disorder_39 rfl (lv_at hl 0 rfl) ?_
      refine s_getI (k := 6) E hU hB.1 sc9 (slt hsh hn 157 rfl) rfl inlX7 (Nat.le_of_ble_eq_true rfl) rfl rfl wkX7_47 dX7_disorder_40 ?_
      refine lv_if_ne (tgt := 92) hx hb dX7_disorder_43 rfl (fun hc => ?_) (fun hc => ?_)
      · have hf := ite_f hf hc
        refine lv_iload_n hx hb dX7_disorder_92 rfl (lv_at hl 2 rfl) ?_
        exact s_iretW E hrt hlocks hB hf dX7_disorder_93
      · have hf := ite_t hf hc
        refine lv_iload_n hx hb dX7_disorder_46 rfl (lv_at hl 2 rfl) ?_
        refine lv_aload_n hx hb dX7_disorder_47 rfl (lv_at hl 0 rfl) ?_
        refine lv_iload_n hx hb dX7_disorder_48 rfl (lv_at hl 3 rfl) ?_
        refine sc_R hf (rV_R (As := [.int x3]) (rest := [.int x2]) E hU hB.1 sc9 (slt hsh hn 157 rfl) rfl (mX7_isAgent l D G ad r _ n x hsh hn x3) (cwGV 1 okX7_isAgent wmX7_102 hts rfl rfl ⟨Nat.le_of_ble_eq_true rfl, Nat.le_of_ble_eq_true rfl⟩) rfl hl.1 (Nat.le_of_ble_eq_true rfl) dX7_disorder_49 ⟨Nat.zero_le _, Nat.zero_le _⟩ rfl) (fun y4 hf => ?_)
        refine lv_if_eq (tgt := 83) hx hb dX7_disorder_52 rfl (fun hc => ?_) (fun hc => ?_)
        · have hf := ite_t hf hc
          refine lv_iconst (v := 0) hx hb dX7_disorder_83 rfl ?_
          refine lv_iadd hx hb dX7_disorder_84 ?_
          refine s_nm hf (fun z5 hf => ?_)
          refine lv_istore_n (lv' := [(2, .int z5), (0, .ref (ad 157)), (1, .int x1), (3, .int x3)]) hx hb dX7_disorder_85 rfl hl (Nat.le_of_ble_eq_true rfl) rfl (fun ls hl => ?_)
          obtain ⟨z6, ez9, hf⟩ := nm_x hf
          refine lv_iinc (v := z6) (lv' := [(3, .int z6), (2, .int z5), (0, .ref (ad 157)), (1, .int x1)]) hx hb dX7_disorder_86 hl (k := 3) rfl (by rw [ez9]; rfl) (Nat.le_of_ble_eq_true rfl) rfl (fun ls hl => ?_)
          refine lv_goto (tgt := 33) hx hb dX7_disorder_89 rfl ?_
          exact ih _ _ _ hf (lv_sub hl [2, 3, 1, 0] rfl)
        · have hf := ite_f hf hc
          refine lv_aload_n hx hb dX7_disorder_55 rfl (lv_at hl 0 rfl) ?_
          refine lv_iload_n hx hb dX7_disorder_56 rfl (lv_at hl 3 rfl) ?_
          refine lv_bipush (v := 6) hx hb dX7_disorder_57 rfl ?_
          refine sc_R hf (rV_R (As := [.int x3, .int 6]) (rest := [.int x2]) E hU hB.1 sc9 (slt hsh hn 157 rfl) rfl (mX7_at l D G ad r _ n x hsh hn x3 6) (cwGV 2 okX7_at wmX7_105 hts rfl rfl ⟨Nat.le_of_ble_eq_true rfl, Nat.le_of_ble_eq_true rfl⟩) rfl hl.1 (Nat.le_of_ble_eq_true rfl) dX7_disorder_59 ⟨Nat.zero_le _, Nat.zero_le _⟩ rfl) (fun y7 hf => ?_)
          refine lv_iload_n hx hb dX7_disorder_62 rfl (lv_at hl 1 rfl) ?_
          refine lv_icmp_ne (tgt := 83) hx hb dX7_disorder_63 rfl (fun hc => ?_) (fun hc => ?_)
          · have hf := ite_f hf hc
            refine lv_iconst (v := 0) hx hb dX7_disorder_83 rfl ?_
            refine lv_iadd hx hb dX7_disorder_84 ?_
            refine s_nm hf (fun z8 hf => ?_)
            refine lv_istore_n (lv' := [(2, .int z8), (0, .ref (ad 157)), (1, .int x1), (3, .int x3)]) hx hb dX7_disorder_85 rfl hl (Nat.le_of_ble_eq_true rfl) rfl (fun ls hl => ?_)
            obtain ⟨z9, ez9, hf⟩ := nm_x hf
            refine lv_iinc (v := z9) (lv' := [(3, .int z9), (2, .int z8), (0, .ref (ad 157)), (1, .int x1)]) hx hb dX7_disorder_86 hl (k := 3) rfl (by rw [ez9]; rfl) (Nat.le_of_ble_eq_true rfl) rfl (fun ls hl => ?_)
            refine lv_goto (tgt := 33) hx hb dX7_disorder_89 rfl ?_
            exact ih _ _ _ hf (lv_sub hl [2, 3, 1, 0] rfl)
          · have hf := ite_t hf hc
            refine lv_aload_n hx hb dX7_disorder_66 rfl (lv_at hl 0 rfl) ?_
            refine lv_iload_n hx hb dX7_disorder_67 rfl (lv_at hl 3 rfl) ?_
            refine lv_iconst (v := 1) hx hb dX7_disorder_68 rfl ?_
            refine sc_R hf (rV_R (As := [.int x3, .int 1]) (rest := [.int x2]) E hU hB.1 sc9 (slt hsh hn 157 rfl) rfl (mX7_at l D G ad r _ n x hsh hn x3 1) (cwGV 2 okX7_at wmX7_105 hts rfl rfl ⟨Nat.le_of_ble_eq_true rfl, Nat.le_of_ble_eq_true rfl⟩) rfl hl.1 (Nat.le_of_ble_eq_true rfl) dX7_disorder_69 ⟨Nat.zero_le _, Nat.zero_le _⟩ rfl) (fun y10 hf => ?_)
            refine lv_aload_n hx hb dX7_disorder_72 rfl (lv_at hl 0 rfl) ?_
            refine lv_iload_n hx hb dX7_disorder_73 rfl (lv_at hl 3 rfl) ?_
            refine sc_R hf (rV_R (As := [.int x3]) (rest := [.int y10, .int x2]) E hU hB.1 sc9 (slt hsh hn 157 rfl) rfl (mX7_target l D G ad r _ n x hsh hn x3) (cwGV 1 okX7_target wmX7_123 hts rfl rfl ⟨Nat.le_of_ble_eq_true rfl, Nat.le_of_ble_eq_true rfl⟩) rfl hl.1 (Nat.le_of_ble_eq_true rfl) dX7_disorder_74 ⟨Nat.zero_le _, Nat.zero_le _⟩ rfl) (fun y11 hf => ?_)
            refine sc_R hf (rS_S (As := [.int y10, .int y11]) (rest := [.int x2]) E (mX7_apart l y10 y11) (cwGS 2 okX7_apart wmX7_143 hts rfl rfl ⟨Nat.le_of_ble_eq_true rfl, Nat.le_of_ble_eq_true rfl⟩) rfl hl.1 (Nat.le_of_ble_eq_true rfl) dX7_disorder_77 ⟨Nat.zero_le _, Nat.zero_le _⟩ rfl) (fun y12 hf => ?_)
            refine lv_goto (tgt := 84) hx hb dX7_disorder_80 rfl ?_
            refine lv_iadd hx hb dX7_disorder_84 ?_
            refine s_nm hf (fun z13 hf => ?_)
            refine lv_istore_n (lv' := [(2, .int z13), (0, .ref (ad 157)), (1, .int x1), (3, .int x3)]) hx hb dX7_disorder_85 rfl hl (Nat.le_of_ble_eq_true rfl) rfl (fun ls hl => ?_)
            obtain ⟨z14, ez9, hf⟩ := nm_x hf
            refine lv_iinc (v := z14) (lv' := [(3, .int z14), (2, .int z13), (0, .ref (ad 157)), (1, .int x1)]) hx hb dX7_disorder_86 hl (k := 3) rfl (by rw [ez9]; rfl) (Nat.le_of_ble_eq_true rfl) rfl (fun ls hl => ?_)
            refine lv_goto (tgt := 33) hx hb dX7_disorder_89 rfl ?_
            exact ih _ _ _ hf (lv_sub hl [2, 3, 1, 0] rfl)
set_option maxRecDepth 100000 in
set_option maxHeartbeats 4000000 in
theorem mX7_disorder (l : Launch) (K : Nat) (D : va_G) (G : Nat → ClassId) (ad : Nat → Nat) (r : sR) (v : sV) (n : Nat) (x : Int64 × UInt64) (hsh : sSh r) (hn : 172 ≤ n) (x1 : Int32) : sMI l yX7_disorder (.code yX7_disorder cX7_disorder 4 (some .int) :: wsL_law) rmX7_disorder D G ad r v n x [.ref (ad 157), .int x1] (fX7_disorder K x1 v) := by
  intro sz res hf
  refine Met.ofW (cc := cX7_disorder) (maxL := 4) (ret := (some .int)) (by decide) rfl ?_
  intro p e s m args below meth c s₁ B hml hv
  obtain ⟨rfl, rfl, hU, hP, hD⟩ := hv
  have hx := B.exec
  have hb := B.bytes
  have hrt := B.returns
  have hts : ∀ w ∈ wsL_law, w.before _ s = true := fun w hw => atoms_spec (ws := .code yX7_disorder cX7_disorder 4 (some .int) :: wsL_law) B.pre w (List.mem_cons_of_mem _ hw)
  have hlocks := B.notSynchronized
  have E : CallFix p m c cX7_disorder 4 s ([.ref (ad 157), .int x1] : List Value).toArray wsL_law RX7 := ⟨hx, hb, hml, findClass_of_methodNamed B.named, hts⟩
  have hB : sB D G (sA ad r n s.heap.size) s.heap ad r v n x s.heap [] := ⟨hP, sD_self hD, va_S.rf⟩
  have hl := lv_entry ([.ref (ad 157), .int x1]) (n := 4) (Nat.le_of_ble_eq_true rfl)
  rw [lg_entry_eq]
  generalize (lg_sl ([.ref (ad 157), .int x1]) ++ List.replicate (4 - (lg_sl ([.ref (ad 157), .int x1])).length) Slot.unset).toArray = ls at hl ⊢
  have hl : lv_has ls 4 [(0, .ref (ad 157)), (1, .int x1)] := hl
  have hf := (fX7_disorder.eq_1 ..).symm.trans hf
  refine lv_aload_n hx hb dX7_disorder_0 rfl (lv_at hl 0 rfl) ?_
  refine lv_aload_n hx hb dX7_disorder_1 rfl (lv_at hl 0 rfl) ?_
  refine lv_iload_n hx hb dX7_disorder_2 rfl (lv_at hl 1 rfl) ?_
  refine sc_R hf (rV_R (As := [.int x1]) (rest := [.ref (ad 157)]) E hU hB.1 sc9 (slt hsh hn 157 rfl) rfl (mX7_isAgent l D G ad r _ n x hsh hn x1) (cwGV 1 okX7_isAgent wmX7_102 hts rfl rfl ⟨Nat.le_of_ble_eq_true rfl, Nat.le_of_ble_eq_true rfl⟩) rfl hl.1 (Nat.le_of_ble_eq_true rfl) dX7_disorder_3 ⟨Nat.zero_le _, Nat.zero_le _⟩ rfl) (fun y1 hf => ?_)
  refine lv_if_ne (tgt := 13) hx hb dX7_disorder_6 rfl (fun hc => ?_) (fun hc => ?_)
  · have hf := ite_f hf hc
    refine lv_aload_n hx hb dX7_disorder_13 rfl (lv_at hl 0 rfl) ?_
    refine lv_iload_n hx hb dX7_disorder_14 rfl (lv_at hl 1 rfl) ?_
    refine sc_R hf (rV_R (As := [.int x1]) (rest := [.ref (ad 157)]) E hU hB.1 sc9 (slt hsh hn 157 rfl) rfl (mX7_members l K D G ad r _ n x hsh hn x1) (cwGV 1 okX7_members wmX7_135 hts rfl rfl ⟨Nat.le_of_ble_eq_true rfl, Nat.le_of_ble_eq_true rfl⟩) rfl hl.1 (Nat.le_of_ble_eq_true rfl) dX7_disorder_15 ⟨Nat.zero_le _, Nat.zero_le _⟩ rfl) (fun y2 hf => ?_)
    refine lv_if_ne (tgt := 25) hx hb dX7_disorder_18 rfl (fun hc => ?_) (fun hc => ?_)
    · have hf := ite_f hf hc
      refine lv_iconst (v := 0) hx hb dX7_disorder_25 rfl ?_
      refine s_putI (k := 6) (ty1 := .int) E hU hB sc9 (slt hsh hn 157 rfl) rfl inlX7 (Nat.le_of_ble_eq_true rfl) rfl rfl wkX7_47 rfl rfl rfl rfl dX7_disorder_26 hf (fun v3 hf H locs hB => ?_)
      refine lv_iconst (v := 0) hx hb dX7_disorder_29 rfl ?_
      refine lv_istore_n (lv' := [(2, .int 0), (0, .ref (ad 157)), (1, .int x1)]) hx hb dX7_disorder_30 rfl hl (Nat.le_of_ble_eq_true rfl) rfl (fun ls hl => ?_)
      refine lv_iconst (v := 0) hx hb dX7_disorder_31 rfl ?_
      refine lv_istore_n (lv' := [(3, .int 0), (2, .int 0), (0, .ref (ad 157)), (1, .int x1)]) hx hb dX7_disorder_32 rfl hl (Nat.le_of_ble_eq_true rfl) rfl (fun ls hl => ?_)
      exact lX7_disorder_33 E hlocks hrt hU hsh hn hB _ _ _ _ hf (lv_sub hl [2, 3, 1, 0] rfl)
    · have hf := ite_t hf hc
      refine lv_iconst (v := 2) hx hb dX7_disorder_21 rfl ?_
      refine lv_goto (tgt := 26) hx hb dX7_disorder_22 rfl ?_
      refine s_putI (k := 6) (ty1 := .int) E hU hB sc9 (slt hsh hn 157 rfl) rfl inlX7 (Nat.le_of_ble_eq_true rfl) rfl rfl wkX7_47 rfl rfl rfl rfl dX7_disorder_26 hf (fun v15 hf H locs hB => ?_)
      refine lv_iconst (v := 0) hx hb dX7_disorder_29 rfl ?_
      refine lv_istore_n (lv' := [(2, .int 0), (0, .ref (ad 157)), (1, .int x1)]) hx hb dX7_disorder_30 rfl hl (Nat.le_of_ble_eq_true rfl) rfl (fun ls hl => ?_)
      refine lv_iconst (v := 0) hx hb dX7_disorder_31 rfl ?_
      refine lv_istore_n (lv' := [(3, .int 0), (2, .int 0), (0, .ref (ad 157)), (1, .int x1)]) hx hb dX7_disorder_32 rfl hl (Nat.le_of_ble_eq_true rfl) rfl (fun ls hl => ?_)
      exact lX7_disorder_33 E hlocks hrt hU hsh hn hB _ _ _ _ hf (lv_sub hl [2, 3, 1, 0] rfl)
  · have hf := ite_t hf hc
    refine lv_iconst (v := 1) hx hb dX7_disorder_9 rfl ?_
    refine lv_goto (tgt := 26) hx hb dX7_disorder_10 rfl ?_
    refine s_putI (k := 6) (ty1 := .int) E hU hB sc9 (slt hsh hn 157 rfl) rfl inlX7 (Nat.le_of_ble_eq_true rfl) rfl rfl wkX7_47 rfl rfl rfl rfl dX7_disorder_26 hf (fun v16 hf H locs hB => ?_)
    refine lv_iconst (v := 0) hx hb dX7_disorder_29 rfl ?_
    refine lv_istore_n (lv' := [(2, .int 0), (0, .ref (ad 157)), (1, .int x1)]) hx hb dX7_disorder_30 rfl hl (Nat.le_of_ble_eq_true rfl) rfl (fun ls hl => ?_)
    refine lv_iconst (v := 0) hx hb dX7_disorder_31 rfl ?_
    refine lv_istore_n (lv' := [(3, .int 0), (2, .int 0), (0, .ref (ad 157)), (1, .int x1)]) hx hb dX7_disorder_32 rfl hl (Nat.le_of_ble_eq_true rfl) rfl (fun ls hl => ?_)
    exact lX7_disorder_33 E hlocks hrt hU hsh hn hB _ _ _ _ hf (lv_sub hl [2, 3, 1, 0] rfl)
abbrev rmX7_moves : Room := { frames := 3, cells := 0, slots := 0, locals := 66 }
set_option maxRecDepth 100000 in
set_option maxHeartbeats 4000000 in
theorem mX7_moves (l : Launch) (D : va_G) (G : Nat → ClassId) (ad : Nat → Nat) (r : sR) (v : sV) (n : Nat) (x : Int64 × UInt64) (hsh : sSh r) (hn : 172 ≤ n) (x1 : Int32) (x2 : Int32) : sMV l yX7_moves (.code yX7_moves cX7_moves 4 none :: wsL_law) rmX7_moves D G ad r v n x [.ref (ad 157), .int x1, .int x2] (fX7_moves x1 x2 v) := by
  intro sz res hf
  refine Met.ofW (cc := cX7_moves) (maxL := 4) (ret := none) (by decide) rfl ?_
  intro p e s m args below meth c s₁ B hml hv
  obtain ⟨rfl, rfl, hU, hP, hD⟩ := hv
  have hx := B.exec
  have hb := B.bytes
  have hrt := B.returns
  have hts : ∀ w ∈ wsL_law, w.before _ s = true := fun w hw => atoms_spec (ws := .code yX7_moves cX7_moves 4 none :: wsL_law) B.pre w (List.mem_cons_of_mem _ hw)
  have hlocks := B.notSynchronized
  have E : CallFix p m c cX7_moves 4 s ([.ref (ad 157), .int x1, .int x2] : List Value).toArray wsL_law RX7 := ⟨hx, hb, hml, findClass_of_methodNamed B.named, hts⟩
  have hB : sB D G (sA ad r n s.heap.size) s.heap ad r v n x s.heap [] := ⟨hP, sD_self hD, va_S.rf⟩
  have hl := lv_entry ([.ref (ad 157), .int x1, .int x2]) (n := 4) (Nat.le_of_ble_eq_true rfl)
  rw [lg_entry_eq]
  generalize (lg_sl ([.ref (ad 157), .int x1, .int x2]) ++ List.replicate (4 - (lg_sl ([.ref (ad 157), .int x1, .int x2])).length) Slot.unset).toArray = ls at hl ⊢
  have hl : lv_has ls 4 [(0, .ref (ad 157)), (1, .int x1), (2, .int x2)] := hl
  have hf := (fX7_moves.eq_1 ..).symm.trans hf
  refine lv_aload_n hx hb dX7_moves_0 rfl (lv_at hl 0 rfl) ?_
  refine lv_iload_n hx hb dX7_moves_1 rfl (lv_at hl 1 rfl) ?_
  refine lv_iconst (v := 1) hx hb dX7_moves_2 rfl ?_
  refine sc_R hf (rV_R (As := [.int x1, .int 1]) (rest := []) E hU hB.1 sc9 (slt hsh hn 157 rfl) rfl (mX7_at l D G ad r _ n x hsh hn x1 1) (cwGV 2 okX7_at wmX7_105 hts rfl rfl ⟨Nat.le_of_ble_eq_true rfl, Nat.le_of_ble_eq_true rfl⟩) rfl hl.1 (Nat.le_of_ble_eq_true rfl) dX7_moves_3 ⟨Nat.zero_le _, Nat.zero_le _⟩ rfl) (fun y1 hf => ?_)
  refine lv_iload_n hx hb dX7_moves_6 rfl (lv_at hl 2 rfl) ?_
  refine sc_R hf (rS_S (As := [.int y1, .int x2]) (rest := []) E (mX7_neighbor l y1 x2) (cwGS 2 okX7_neighbor wmX7_76 hts rfl rfl ⟨Nat.le_of_ble_eq_true rfl, Nat.le_of_ble_eq_true rfl⟩) rfl hl.1 (Nat.le_of_ble_eq_true rfl) dX7_moves_7 ⟨Nat.zero_le _, Nat.zero_le _⟩ rfl) (fun y2 hf => ?_)
  refine lv_istore_n (lv' := [(3, .int y2), (0, .ref (ad 157)), (1, .int x1), (2, .int x2)]) hx hb dX7_moves_10 rfl hl (Nat.le_of_ble_eq_true rfl) rfl (fun ls hl => ?_)
  refine lv_aload_n hx hb dX7_moves_11 rfl (lv_at hl 1 rfl) ?_
  refine lv_iload_n hx hb dX7_moves_12 rfl (lv_at hl 2 rfl) ?_
  refine lv_iconst (v := 1) hx hb dX7_moves_13 rfl ?_
  refine lv_iload_n hx hb dX7_moves_14 rfl (lv_at hl 0 rfl) ?_
  refine sc_V hB (fun q h => Or.inr h) hf (fun q9 h9 => rV_W (As := [.int x1, .int 1, .int y2]) (rest := []) E hU hB sc9 (slt hsh hn 157 rfl) rfl ((mX7_put l D G ad r _ n x hsh hn x1 1 y2) _ _ h9) (cwGV 3 okX7_put wmX7_119 hts rfl rfl ⟨Nat.le_of_ble_eq_true rfl, Nat.le_of_ble_eq_true rfl⟩) rfl hl.1 (Nat.le_of_ble_eq_true rfl) dX7_moves_15 ⟨Nat.zero_le _, Nat.zero_le _⟩ rfl) (fun v3 hf H locs hB => ?_)
  refine lv_aload_n hx hb dX7_moves_18 rfl (lv_at hl 1 rfl) ?_
  refine lv_iload_n hx hb dX7_moves_19 rfl (lv_at hl 2 rfl) ?_
  refine lv_iconst (v := 4) hx hb dX7_moves_20 rfl ?_
  refine lv_iload_n hx hb dX7_moves_21 rfl (lv_at hl 3 rfl) ?_
  refine sc_V hB (fun q h => Or.inr h) hf (fun q9 h9 => rV_W (As := [.int x1, .int 4, .int x2]) (rest := []) E hU hB sc9 (slt hsh hn 157 rfl) rfl ((mX7_put l D G ad r _ n x hsh hn x1 4 x2) _ _ h9) (cwGV 3 okX7_put wmX7_119 hts rfl rfl ⟨Nat.le_of_ble_eq_true rfl, Nat.le_of_ble_eq_true rfl⟩) rfl hl.1 (Nat.le_of_ble_eq_true rfl) dX7_moves_22 ⟨Nat.zero_le _, Nat.zero_le _⟩ rfl) (fun v4 hf H locs hB => ?_)
  refine lv_aload_n hx hb dX7_moves_25 rfl (lv_at hl 1 rfl) ?_
  refine s_getR (k := 0) (t := 158) E hU hB.1 sc9 (slt hsh hn 157 rfl) rfl inlX7 (Nat.le_of_ble_eq_true rfl) rfl rfl wkX7_9 (hsh.1 157 0 158 rfl) dX7_moves_26 ?_
  refine lv_sipush (v := 140) hx hb dX7_moves_29 rfl ?_
  refine lv_iload_n hx hb dX7_moves_32 rfl (lv_at hl 0 rfl) ?_
  refine lv_iadd hx hb dX7_moves_33 ?_
  refine lv_dup2_11 hx hb dX7_moves_34 rfl rfl ?_
  refine s_iald E hU hB.1 (slt hsh hn 158 rfl) rfl dX7_moves_35 hf (fun y5 hf => ?_)
  refine lv_iconst (v := 1) hx hb dX7_moves_36 rfl ?_
  refine lv_iadd hx hb dX7_moves_37 ?_
  refine s_iast E hU hB (slt hsh hn 158 rfl) rfl dX7_moves_38 hf (fun v6 hf H locs hB => ?_)
  exact s_vretW E hrt hlocks hB hf dX7_moves_39
abbrev rmX7_movesItself : Room := { frames := 4, cells := 0, slots := 0, locals := 89 }
set_option maxRecDepth 100000 in
set_option maxHeartbeats 4000000 in
theorem mX7_movesItself (l : Launch) (D : va_G) (G : Nat → ClassId) (ad : Nat → Nat) (r : sR) (v : sV) (n : Nat) (x : Int64 × UInt64) (hsh : sSh r) (hn : 172 ≤ n) (x1 : Int32) (x2 : Int32) : sMV l yX7_movesItself (.code yX7_movesItself cX7_movesItself 3 none :: wsL_law) rmX7_movesItself D G ad r v n x [.ref (ad 157), .int x1, .int x2] (fX7_movesItself x1 x2 v) := by
  intro sz res hf
  refine Met.ofW (cc := cX7_movesItself) (maxL := 3) (ret := none) (by decide) rfl ?_
  intro p e s m args below meth c s₁ B hml hv
  obtain ⟨rfl, rfl, hU, hP, hD⟩ := hv
  have hx := B.exec
  have hb := B.bytes
  have hrt := B.returns
  have hts : ∀ w ∈ wsL_law, w.before _ s = true := fun w hw => atoms_spec (ws := .code yX7_movesItself cX7_movesItself 3 none :: wsL_law) B.pre w (List.mem_cons_of_mem _ hw)
  have hlocks := B.notSynchronized
  have E : CallFix p m c cX7_movesItself 3 s ([.ref (ad 157), .int x1, .int x2] : List Value).toArray wsL_law RX7 := ⟨hx, hb, hml, findClass_of_methodNamed B.named, hts⟩
  have hB : sB D G (sA ad r n s.heap.size) s.heap ad r v n x s.heap [] := ⟨hP, sD_self hD, va_S.rf⟩
  have hl := lv_entry ([.ref (ad 157), .int x1, .int x2]) (n := 3) (Nat.le_of_ble_eq_true rfl)
  rw [lg_entry_eq]
  generalize (lg_sl ([.ref (ad 157), .int x1, .int x2]) ++ List.replicate (3 - (lg_sl ([.ref (ad 157), .int x1, .int x2])).length) Slot.unset).toArray = ls at hl ⊢
  have hl : lv_has ls 3 [(0, .ref (ad 157)), (1, .int x1), (2, .int x2)] := hl
  have hf := (fX7_movesItself.eq_1 ..).symm.trans hf
  refine lv_aload_n hx hb dX7_movesItself_0 rfl (lv_at hl 0 rfl) ?_
  refine lv_iload_n hx hb dX7_movesItself_1 rfl (lv_at hl 1 rfl) ?_
  refine lv_iload_n hx hb dX7_movesItself_2 rfl (lv_at hl 2 rfl) ?_
  refine sc_V hB (fun q h => Or.inr h) hf (fun q9 h9 => rV_W (As := [.int x1, .int x2]) (rest := []) E hU hB sc9 (slt hsh hn 157 rfl) rfl ((mX7_moves l D G ad r _ n x hsh hn x1 x2) _ _ h9) (cwGV 2 okX7_moves wmX7_146 hts rfl rfl ⟨Nat.le_of_ble_eq_true rfl, Nat.le_of_ble_eq_true rfl⟩) rfl hl.1 (Nat.le_of_ble_eq_true rfl) dX7_movesItself_3 ⟨Nat.zero_le _, Nat.zero_le _⟩ rfl) (fun v1 hf H locs hB => ?_)
  refine lv_aload_n hx hb dX7_movesItself_6 rfl (lv_at hl 0 rfl) ?_
  refine lv_iload_n hx hb dX7_movesItself_7 rfl (lv_at hl 1 rfl) ?_
  refine lv_iconst (v := 5) hx hb dX7_movesItself_8 rfl ?_
  refine lv_iconst (v := 0) hx hb dX7_movesItself_9 rfl ?_
  refine sc_V hB (fun q h => Or.inr h) hf (fun q9 h9 => rV_W (As := [.int x1, .int 5, .int 0]) (rest := []) E hU hB sc9 (slt hsh hn 157 rfl) rfl ((mX7_put l D G ad r _ n x hsh hn x1 5 0) _ _ h9) (cwGV 3 okX7_put wmX7_119 hts rfl rfl ⟨Nat.le_of_ble_eq_true rfl, Nat.le_of_ble_eq_true rfl⟩) rfl hl.1 (Nat.le_of_ble_eq_true rfl) dX7_movesItself_10 ⟨Nat.zero_le _, Nat.zero_le _⟩ rfl) (fun v2 hf H locs hB => ?_)
  refine lv_aload_n hx hb dX7_movesItself_13 rfl (lv_at hl 0 rfl) ?_
  refine s_getR (k := 0) (t := 158) E hU hB.1 sc9 (slt hsh hn 157 rfl) rfl inlX7 (Nat.le_of_ble_eq_true rfl) rfl rfl wkX7_9 (hsh.1 157 0 158 rfl) dX7_movesItself_14 ?_
  refine lv_sipush (v := 286) hx hb dX7_movesItself_17 rfl ?_
  refine lv_dup2_11 hx hb dX7_movesItself_20 rfl rfl ?_
  refine s_iald E hU hB.1 (slt hsh hn 158 rfl) rfl dX7_movesItself_21 hf (fun y3 hf => ?_)
  refine lv_iconst (v := 1) hx hb dX7_movesItself_22 rfl ?_
  refine lv_iadd hx hb dX7_movesItself_23 ?_
  refine s_iast E hU hB (slt hsh hn 158 rfl) rfl dX7_movesItself_24 hf (fun v4 hf H locs hB => ?_)
  exact s_vretW E hrt hlocks hB hf dX7_movesItself_25
abbrev rmX7_isEmpty : Room := { frames := 3, cells := 0, slots := 0, locals := 65 }
set_option maxRecDepth 100000 in
set_option maxHeartbeats 4000000 in
theorem mX7_isEmpty (l : Launch) (K : Nat) (D : va_G) (G : Nat → ClassId) (ad : Nat → Nat) (r : sR) (v : sV) (n : Nat) (x : Int64 × UInt64) (hsh : sSh r) (hn : 172 ≤ n) (x1 : Int32) : sMR l yX7_isEmpty (.code yX7_isEmpty cX7_isEmpty 2 (some .boolean) :: wsL_law) rmX7_isEmpty D G ad r v n x [.ref (ad 157), .int x1] (fX7_isEmpty K x1 v) := by
  intro res hf
  refine Met.ofW (cc := cX7_isEmpty) (maxL := 2) (ret := (some .boolean)) (by decide) rfl ?_
  intro p e s m args below meth c s₁ B hml hv
  obtain ⟨rfl, hU, hP⟩ := hv
  have hx := B.exec
  have hb := B.bytes
  have hrt := B.returns
  have hts : ∀ w ∈ wsL_law, w.before _ s = true := fun w hw => atoms_spec (ws := .code yX7_isEmpty cX7_isEmpty 2 (some .boolean) :: wsL_law) B.pre w (List.mem_cons_of_mem _ hw)
  have hlocks := B.notSynchronized
  have E : CallFix p m c cX7_isEmpty 2 s ([.ref (ad 157), .int x1] : List Value).toArray wsL_law RX7 := ⟨hx, hb, hml, findClass_of_methodNamed B.named, hts⟩
  have hl := lv_entry ([.ref (ad 157), .int x1]) (n := 2) (Nat.le_of_ble_eq_true rfl)
  rw [lg_entry_eq]
  generalize (lg_sl ([.ref (ad 157), .int x1]) ++ List.replicate (2 - (lg_sl ([.ref (ad 157), .int x1])).length) Slot.unset).toArray = ls at hl ⊢
  have hl : lv_has ls 2 [(0, .ref (ad 157)), (1, .int x1)] := hl
  have hf := (fX7_isEmpty.eq_1 ..).symm.trans hf
  refine lv_aload_n hx hb dX7_isEmpty_0 rfl (lv_at hl 0 rfl) ?_
  refine lv_iload_n hx hb dX7_isEmpty_1 rfl (lv_at hl 1 rfl) ?_
  refine sc_R hf (rV_R (As := [.int x1]) (rest := []) E hU hP sc9 (slt hsh hn 157 rfl) rfl (mX7_isFree l D G ad r _ n x hsh hn x1) (cwGV 1 okX7_isFree wmX7_79 hts rfl rfl ⟨Nat.le_of_ble_eq_true rfl, Nat.le_of_ble_eq_true rfl⟩) rfl hl.1 (Nat.le_of_ble_eq_true rfl) dX7_isEmpty_2 ⟨Nat.zero_le _, Nat.zero_le _⟩ rfl) (fun y1 hf => ?_)
  refine lv_if_eq (tgt := 20) hx hb dX7_isEmpty_5 rfl (fun hc => ?_) (fun hc => ?_)
  · have hf := ite_t hf hc
    refine lv_iconst (v := 0) hx hb dX7_isEmpty_20 rfl ?_
    exact s_zretR E hrt hlocks rfl hf dX7_isEmpty_21
  · have hf := ite_f hf hc
    refine lv_aload_n hx hb dX7_isEmpty_8 rfl (lv_at hl 0 rfl) ?_
    refine lv_iload_n hx hb dX7_isEmpty_9 rfl (lv_at hl 1 rfl) ?_
    refine sc_R hf (rV_R (As := [.int x1]) (rest := []) E hU hP sc9 (slt hsh hn 157 rfl) rfl (mX7_agentOn l K D G ad r _ n x hsh hn x1) (cwGV 1 okX7_agentOn wmX7_93 hts rfl rfl ⟨Nat.le_of_ble_eq_true rfl, Nat.le_of_ble_eq_true rfl⟩) rfl hl.1 (Nat.le_of_ble_eq_true rfl) dX7_isEmpty_10 ⟨Nat.zero_le _, Nat.zero_le _⟩ rfl) (fun y2 hf => ?_)
    refine lv_if_ge (tgt := 20) hx hb dX7_isEmpty_13 rfl (fun hc => ?_) (fun hc => ?_)
    · have hf := ite_t hf hc
      refine lv_iconst (v := 0) hx hb dX7_isEmpty_20 rfl ?_
      exact s_zretR E hrt hlocks rfl hf dX7_isEmpty_21
    · have hf := ite_f hf hc
      refine lv_iconst (v := 1) hx hb dX7_isEmpty_16 rfl ?_
      refine lv_goto (tgt := 21) hx hb dX7_isEmpty_17 rfl ?_
      exact s_zretR E hrt hlocks rfl hf dX7_isEmpty_21
abbrev rmX7_isPushed : Room := { frames := 6, cells := 0, slots := 0, locals := 139 }
set_option maxRecDepth 100000 in
set_option maxHeartbeats 4000000 in
theorem wX7_isPushed_60 {K : Nat} {x1 : Int32} {x2 : Int32} {x3 : Int32} {x4 : Int32} {t0 : Int32} {k7 : Int32 → Int32 → Int32 → sV → Option (Int32 × sV)} {res : (Int32 × sV)} (E : CallFix p m c cX7_isPushed 7 s args wsL_law RX7) (hlocks : meth.locks = false) (hrt : meth.sig.returnType = (some .boolean)) (hU : sU D G s) (hsh : sSh r) (hn : 172 ≤ n) {v : sV} {H : Heap} {locs : List Loc} (hB : sB D G (sA ad r n s.heap.size) s.heap ad r v n x H locs) (ih7 : ∀ (x2 : Int32) (x3 : Int32) (x4 : Int32) (v : sV) (H : Heap) (locs : List Loc) (ls : Array Slot), k7 x2 x3 x4 v = some res → sB D G (sA ad r n s.heap.size) s.heap ad r v n x H locs → lv_has ls 7 [(0, .ref (ad 157)), (1, .int x1), (2, .int x2), (3, .int x3), (4, .int x4)] → W p l e rmX7_isPushed s m args below meth c H locs 0 0 (MQ below (sQI D G ad r n x s.heap.size res) args s 0 0 (sA ad r n s.heap.size)) (F0 m 7 ls [])) {ls : Array Slot} (hf : bX7_isPushed_60 K k7 x1 x2 x3 x4 t0 v = some res) (hl : lv_has ls 7 [(0, .ref (ad 157)), (1, .int x1), (2, .int x2), (3, .int x3), (4, .int x4)]) :
    W p l e rmX7_isPushed s m args below meth c H locs 0 0 (MQ below (sQI D G ad r n x s.heap.size res) args s 0 0 (sA ad r n s.heap.size)) (F0 m 60 ls [.int t0]) := by
  have hx := E.1
  have hb := E.2.1
  have hts := E.2.2.2.2
  have hf := (bX7_isPushed_60.eq_1 ..).symm.trans hf
  refine lv_istore (lv' := [(6, .int t0), (0, .ref (ad 157)), (1, .int x1), (2, .int x2), (3, .int x3), (4, .int x4)]) hx hb dX7_isPushed_60 hl (Nat.le_of_ble_eq_true rfl) rfl (fun ls hl => ?_)
  refine lv_iload_n hx hb dX7_isPushed_62 rfl (lv_at hl 3 rfl) ?_
  refine lv_if_lt (tgt := 72) hx hb dX7_isPushed_63 rfl (fun hc => ?_) (fun hc => ?_)
  · have hf := ite_t hf hc
    refine lv_iload hx hb dX7_isPushed_72 (lv_at hl 5 rfl) ?_
    refine lv_istore_n (lv' := [(2, .int x4), (6, .int t0), (0, .ref (ad 157)), (1, .int x1), (3, .int x3), (4, .int x4)]) hx hb dX7_isPushed_74 rfl hl (Nat.le_of_ble_eq_true rfl) rfl (fun ls hl => ?_)
    refine lv_iload hx hb dX7_isPushed_75 (lv_at hl 1 rfl) ?_
    refine lv_istore_n (lv' := [(3, .int t0), (2, .int x4), (6, .int t0), (0, .ref (ad 157)), (1, .int x1), (4, .int x4)]) hx hb dX7_isPushed_77 rfl hl (Nat.le_of_ble_eq_true rfl) rfl (fun ls hl => ?_)
    obtain ⟨z10, ez9, hf⟩ := nm_x hf
    refine lv_iinc (v := z10) (lv' := [(4, .int z10), (3, .int t0), (2, .int x4), (6, .int t0), (0, .ref (ad 157)), (1, .int x1)]) hx hb dX7_isPushed_78 hl (k := 5) rfl (by rw [ez9]; rfl) (Nat.le_of_ble_eq_true rfl) rfl (fun ls hl => ?_)
    refine lv_goto (tgt := 7) hx hb dX7_isPushed_81 rfl ?_
    exact ih7 _ _ _ _ _ _ _ hf hB (lv_sub hl [4, 5, 2, 1, 0] rfl)
  · have hf := ite_f hf hc
    refine lv_iload hx hb dX7_isPushed_66 (lv_at hl 0 rfl) ?_
    refine lv_iload_n hx hb dX7_isPushed_68 rfl (lv_at hl 4 rfl) ?_
    refine lv_icmp_ge (tgt := 78) hx hb dX7_isPushed_69 rfl (fun hc => ?_) (fun hc => ?_)
    · have hf := ite_t hf hc
      obtain ⟨z11, ez9, hf⟩ := nm_x hf
      refine lv_iinc (v := z11) (lv' := [(4, .int z11), (6, .int t0), (0, .ref (ad 157)), (1, .int x1), (2, .int x2), (3, .int x3)]) hx hb dX7_isPushed_78 hl (k := 5) rfl (by rw [ez9]; rfl) (Nat.le_of_ble_eq_true rfl) rfl (fun ls hl => ?_)
      refine lv_goto (tgt := 7) hx hb dX7_isPushed_81 rfl ?_
      exact ih7 _ _ _ _ _ _ _ hf hB (lv_sub hl [2, 3, 4, 5, 0] rfl)
    · have hf := ite_f hf hc
      refine lv_iload hx hb dX7_isPushed_72 (lv_at hl 5 rfl) ?_
      refine lv_istore_n (lv' := [(2, .int x4), (6, .int t0), (0, .ref (ad 157)), (1, .int x1), (3, .int x3), (4, .int x4)]) hx hb dX7_isPushed_74 rfl hl (Nat.le_of_ble_eq_true rfl) rfl (fun ls hl => ?_)
      refine lv_iload hx hb dX7_isPushed_75 (lv_at hl 1 rfl) ?_
      refine lv_istore_n (lv' := [(3, .int t0), (2, .int x4), (6, .int t0), (0, .ref (ad 157)), (1, .int x1), (4, .int x4)]) hx hb dX7_isPushed_77 rfl hl (Nat.le_of_ble_eq_true rfl) rfl (fun ls hl => ?_)
      obtain ⟨z12, ez9, hf⟩ := nm_x hf
      refine lv_iinc (v := z12) (lv' := [(4, .int z12), (3, .int t0), (2, .int x4), (6, .int t0), (0, .ref (ad 157)), (1, .int x1)]) hx hb dX7_isPushed_78 hl (k := 5) rfl (by rw [ez9]; rfl) (Nat.le_of_ble_eq_true rfl) rfl (fun ls hl => ?_)
      refine lv_goto (tgt := 7) hx hb dX7_isPushed_81 rfl ?_
      exact ih7 _ _ _ _ _ _ _ hf hB (lv_sub hl [4, 5, 2, 1, 0] rfl)
set_option maxRecDepth 100000 in
set_option maxHeartbeats 4000000 in
theorem lX7_isPushed_7 {K : Nat} {x1 : Int32} {res : (Int32 × sV)} (E : CallFix p m c cX7_isPushed 7 s args wsL_law RX7) (hlocks : meth.locks = false) (hrt : meth.sig.returnType = (some .boolean)) (hU : sU D G s) (hsh : sSh r) (hn : 172 ≤ n) :
    ∀ (k : Nat) (x2 : Int32) (x3 : Int32) (x4 : Int32) (v : sV) (H : Heap) (locs : List Loc) (ls : Array Slot), fx4 (gX7_isPushed_7 K x1) k x2 x3 x4 v = some res → sB D G (sA ad r n s.heap.size) s.heap ad r v n x H locs → lv_has ls 7 [(0, .ref (ad 157)), (1, .int x1), (2, .int x2), (3, .int x3), (4, .int x4)] → W p l e rmX7_isPushed s m args below meth c H locs 0 0 (MQ below (sQI D G ad r n x s.heap.size res) args s 0 0 (sA ad r n s.heap.size)) (F0 m 7 ls []) := by
  have hx := E.1
  have hb := E.2.1
  have hts := E.2.2.2.2
  intro k
  induction k with
  | zero =>
    intro x2 x3 x4 v H locs ls hf hB hl
    exact fx4_z hf
  | succ k ih =>
    intro x2 x3 x4 v H locs ls hf hB hl
    have hf := (gX7_isPushed_7.eq_1 ..).symm.trans hf
    refine lv_iload hx hb dX7_isPushed_7 (lv_at hl 4 rfl) ?_
    refine lv_iconst (v := 4) hx hb dX7_isPushed_9 rfl ?_
    refine lv_icmp_ge (tgt := 84) hx hb dX7_isPushed_10 rfl (fun hc => ?_) (fun hc => ?_)
    · have hf := ite_t hf hc
      refine lv_iload_n hx hb dX7_isPushed_84 rfl (lv_at hl 2 rfl) ?_
      refine lv_if_ge (tgt := 90) hx hb dX7_isPushed_85 rfl (fun hc => ?_) (fun hc => ?_)
      · have hf := ite_t hf hc
        refine lv_aload_n hx hb dX7_isPushed_90 rfl (lv_at hl 0 rfl) ?_
        refine lv_iload_n hx hb dX7_isPushed_91 rfl (lv_at hl 1 rfl) ?_
        refine lv_iload_n hx hb dX7_isPushed_92 rfl (lv_at hl 2 rfl) ?_
        refine sc_V hB (fun q h => Or.inr h) hf (fun q9 h9 => rV_W (As := [.int x1, .int x2]) (rest := []) E hU hB sc9 (slt hsh hn 157 rfl) rfl ((mX7_moves l D G ad r _ n x hsh hn x1 x2) _ _ h9) (cwGV 2 okX7_moves wmX7_146 hts rfl rfl ⟨Nat.le_of_ble_eq_true rfl, Nat.le_of_ble_eq_true rfl⟩) rfl hl.1 (Nat.le_of_ble_eq_true rfl) dX7_isPushed_93 ⟨Nat.zero_le _, Nat.zero_le _⟩ rfl) (fun v1 hf H locs hB => ?_)
        refine lv_aload_n hx hb dX7_isPushed_96 rfl (lv_at hl 0 rfl) ?_
        refine s_getR (k := 12) (t := 167) E hU hB.1 sc9 (slt hsh hn 157 rfl) rfl inlX7 (Nat.le_of_ble_eq_true rfl) rfl rfl wkX7_38 (hsh.1 157 12 167 rfl) dX7_isPushed_97 ?_
        refine lv_iload_n hx hb dX7_isPushed_100 rfl (lv_at hl 1 rfl) ?_
        refine lv_iconst (v := 1) hx hb dX7_isPushed_101 rfl ?_
        refine s_zast E hU hB (slt hsh hn 167 rfl) rfl rfl dX7_isPushed_102 hf (fun v2 hf H locs hB => ?_)
        refine lv_aload_n hx hb dX7_isPushed_103 rfl (lv_at hl 0 rfl) ?_
        refine s_getR (k := 0) (t := 158) E hU hB.1 sc9 (slt hsh hn 157 rfl) rfl inlX7 (Nat.le_of_ble_eq_true rfl) rfl rfl wkX7_9 (hsh.1 157 0 158 rfl) dX7_isPushed_104 ?_
        refine lv_sipush (v := 287) hx hb dX7_isPushed_107 rfl ?_
        refine lv_dup2_11 hx hb dX7_isPushed_110 rfl rfl ?_
        refine s_iald E hU hB.1 (slt hsh hn 158 rfl) rfl dX7_isPushed_111 hf (fun y3 hf => ?_)
        refine lv_iconst (v := 1) hx hb dX7_isPushed_112 rfl ?_
        refine lv_iadd hx hb dX7_isPushed_113 ?_
        refine s_iast E hU hB (slt hsh hn 158 rfl) rfl dX7_isPushed_114 hf (fun v4 hf H locs hB => ?_)
        refine lv_iconst (v := 1) hx hb dX7_isPushed_115 rfl ?_
        exact s_zretW E hrt hlocks hB rfl hf dX7_isPushed_116
      · have hf := ite_f hf hc
        refine lv_iconst (v := 0) hx hb dX7_isPushed_88 rfl ?_
        exact s_zretW E hrt hlocks hB rfl hf dX7_isPushed_89
    · have hf := ite_f hf hc
      refine lv_aload_n hx hb dX7_isPushed_13 rfl (lv_at hl 0 rfl) ?_
      refine lv_iload_n hx hb dX7_isPushed_14 rfl (lv_at hl 1 rfl) ?_
      refine lv_iconst (v := 1) hx hb dX7_isPushed_15 rfl ?_
      refine sc_R hf (rV_R (As := [.int x1, .int 1]) (rest := []) E hU hB.1 sc9 (slt hsh hn 157 rfl) rfl (mX7_at l D G ad r _ n x hsh hn x1 1) (cwGV 2 okX7_at wmX7_105 hts rfl rfl ⟨Nat.le_of_ble_eq_true rfl, Nat.le_of_ble_eq_true rfl⟩) rfl hl.1 (Nat.le_of_ble_eq_true rfl) dX7_isPushed_16 ⟨Nat.zero_le _, Nat.zero_le _⟩ rfl) (fun y5 hf => ?_)
      refine lv_iload hx hb dX7_isPushed_19 (lv_at hl 4 rfl) ?_
      refine sc_R hf (rS_S (As := [.int y5, .int x4]) (rest := []) E (mX7_neighbor l y5 x4) (cwGS 2 okX7_neighbor wmX7_76 hts rfl rfl ⟨Nat.le_of_ble_eq_true rfl, Nat.le_of_ble_eq_true rfl⟩) rfl hl.1 (Nat.le_of_ble_eq_true rfl) dX7_isPushed_21 ⟨Nat.zero_le _, Nat.zero_le _⟩ rfl) (fun y6 hf => ?_)
      refine lv_istore (lv' := [(5, .int y6), (0, .ref (ad 157)), (1, .int x1), (2, .int x2), (3, .int x3), (4, .int x4)]) hx hb dX7_isPushed_24 hl (Nat.le_of_ble_eq_true rfl) rfl (fun ls hl => ?_)
      refine lv_aload_n hx hb dX7_isPushed_26 rfl (lv_at hl 1 rfl) ?_
      refine lv_iload hx hb dX7_isPushed_27 (lv_at hl 0 rfl) ?_
      refine sc_R hf (rV_R (As := [.int y6]) (rest := []) E hU hB.1 sc9 (slt hsh hn 157 rfl) rfl (mX7_isEmpty l K D G ad r _ n x hsh hn y6) (cwGV 1 okX7_isEmpty wmX7_150 hts rfl rfl ⟨Nat.le_of_ble_eq_true rfl, Nat.le_of_ble_eq_true rfl⟩) rfl hl.1 (Nat.le_of_ble_eq_true rfl) dX7_isPushed_29 ⟨Nat.zero_le _, Nat.zero_le _⟩ rfl) (fun y7 hf => ?_)
      refine lv_if_ne (tgt := 38) hx hb dX7_isPushed_32 rfl (fun hc => ?_) (fun hc => ?_)
      · have hf := ite_f hf hc
        refine lv_aload_n hx hb dX7_isPushed_38 rfl (lv_at hl 1 rfl) ?_
        refine lv_iload_n hx hb dX7_isPushed_39 rfl (lv_at hl 2 rfl) ?_
        refine lv_iload hx hb dX7_isPushed_40 (lv_at hl 0 rfl) ?_
        refine sc_I hB (fun q h => Or.inr h) hf (fun q9 h9 => rV_W (As := [.int x1, .int y6]) (rest := []) E hU hB sc9 (slt hsh hn 157 rfl) rfl ((mX7_farFor l K D G ad r _ n x hsh hn x1 y6) _ _ h9) (cwGV 2 okX7_farFor wmX7_126 hts rfl rfl ⟨Nat.le_of_ble_eq_true rfl, Nat.le_of_ble_eq_true rfl⟩) rfl hl.1 (Nat.le_of_ble_eq_true rfl) dX7_isPushed_42 ⟨Nat.zero_le _, Nat.zero_le _⟩ rfl) (fun y9 v8 hf H locs hB => ?_)
        refine lv_istore (lv' := [(6, .int y9), (5, .int y6), (0, .ref (ad 157)), (1, .int x1), (2, .int x2), (3, .int x3), (4, .int x4)]) hx hb dX7_isPushed_45 hl (Nat.le_of_ble_eq_true rfl) rfl (fun ls hl => ?_)
        refine lv_iload hx hb dX7_isPushed_47 (lv_at hl 0 rfl) ?_
        refine lv_if_ge (tgt := 58) hx hb dX7_isPushed_49 rfl (fun hc => ?_) (fun hc => ?_)
        · have hf := ite_t hf hc
          refine lv_iload hx hb dX7_isPushed_58 (lv_at hl 0 rfl) ?_
          exact wX7_isPushed_60 E hlocks hrt hU hsh hn hB ih hf (lv_sub hl [2, 3, 4, 5, 6] rfl)
        · have hf := ite_f hf hc
          refine lv_sipush (v := 9999) hx hb dX7_isPushed_52 rfl ?_
          refine lv_goto (tgt := 60) hx hb dX7_isPushed_55 rfl ?_
          exact wX7_isPushed_60 E hlocks hrt hU hsh hn hB ih hf (lv_sub hl [2, 3, 4, 5, 6] rfl)
      · have hf := ite_t hf hc
        refine lv_goto (tgt := 78) hx hb dX7_isPushed_35 rfl ?_
        obtain ⟨z13, ez9, hf⟩ := nm_x hf
        refine lv_iinc (v := z13) (lv' := [(4, .int z13), (5, .int y6), (0, .ref (ad 157)), (1, .int x1), (2, .int x2), (3, .int x3)]) hx hb dX7_isPushed_78 hl (k := 5) rfl (by rw [ez9]; rfl) (Nat.le_of_ble_eq_true rfl) rfl (fun ls hl => ?_)
        refine lv_goto (tgt := 7) hx hb dX7_isPushed_81 rfl ?_
        exact ih _ _ _ _ _ _ _ hf hB (lv_sub hl [2, 3, 4, 5, 0] rfl)
set_option maxRecDepth 100000 in
set_option maxHeartbeats 4000000 in
theorem mX7_isPushed (l : Launch) (K : Nat) (D : va_G) (G : Nat → ClassId) (ad : Nat → Nat) (r : sR) (v : sV) (n : Nat) (x : Int64 × UInt64) (hsh : sSh r) (hn : 172 ≤ n) (x1 : Int32) : sMI l yX7_isPushed (.code yX7_isPushed cX7_isPushed 7 (some .boolean) :: wsL_law) rmX7_isPushed D G ad r v n x [.ref (ad 157), .int x1] (fX7_isPushed K x1 v) := by
  intro sz res hf
  refine Met.ofW (cc := cX7_isPushed) (maxL := 7) (ret := (some .boolean)) (by decide) rfl ?_
  intro p e s m args below meth c s₁ B hml hv
  obtain ⟨rfl, rfl, hU, hP, hD⟩ := hv
  have hx := B.exec
  have hb := B.bytes
  have hrt := B.returns
  have hts : ∀ w ∈ wsL_law, w.before _ s = true := fun w hw => atoms_spec (ws := .code yX7_isPushed cX7_isPushed 7 (some .boolean) :: wsL_law) B.pre w (List.mem_cons_of_mem _ hw)
  have hlocks := B.notSynchronized
  have E : CallFix p m c cX7_isPushed 7 s ([.ref (ad 157), .int x1] : List Value).toArray wsL_law RX7 := ⟨hx, hb, hml, findClass_of_methodNamed B.named, hts⟩
  have hB : sB D G (sA ad r n s.heap.size) s.heap ad r v n x s.heap [] := ⟨hP, sD_self hD, va_S.rf⟩
  have hl := lv_entry ([.ref (ad 157), .int x1]) (n := 7) (Nat.le_of_ble_eq_true rfl)
  rw [lg_entry_eq]
  generalize (lg_sl ([.ref (ad 157), .int x1]) ++ List.replicate (7 - (lg_sl ([.ref (ad 157), .int x1])).length) Slot.unset).toArray = ls at hl ⊢
  have hl : lv_has ls 7 [(0, .ref (ad 157)), (1, .int x1)] := hl
  have hf := (fX7_isPushed.eq_1 ..).symm.trans hf
  refine lv_iconst (v := (-1)) hx hb dX7_isPushed_0 rfl ?_
  refine lv_istore_n (lv' := [(2, .int (-1)), (0, .ref (ad 157)), (1, .int x1)]) hx hb dX7_isPushed_1 rfl hl (Nat.le_of_ble_eq_true rfl) rfl (fun ls hl => ?_)
  refine lv_iconst (v := 0) hx hb dX7_isPushed_2 rfl ?_
  refine lv_istore_n (lv' := [(3, .int 0), (2, .int (-1)), (0, .ref (ad 157)), (1, .int x1)]) hx hb dX7_isPushed_3 rfl hl (Nat.le_of_ble_eq_true rfl) rfl (fun ls hl => ?_)
  refine lv_iconst (v := 0) hx hb dX7_isPushed_4 rfl ?_
  refine lv_istore (lv' := [(4, .int 0), (3, .int 0), (2, .int (-1)), (0, .ref (ad 157)), (1, .int x1)]) hx hb dX7_isPushed_5 hl (Nat.le_of_ble_eq_true rfl) rfl (fun ls hl => ?_)
  exact lX7_isPushed_7 E hlocks hrt hU hsh hn _ _ _ _ _ _ _ _ hf hB (lv_sub hl [3, 4, 2, 1, 0] rfl)
abbrev rmX7_detour : Room := { frames := 5, cells := 0, slots := 0, locals := 116 }
set_option maxRecDepth 100000 in
set_option maxHeartbeats 4000000 in
theorem lX7_detour_11 {K : Nat} {x1 : Int32} {x2 : Int32} {res : (Int32 × sV)} (E : CallFix p m c cX7_detour 8 s args wsL_law RX7) (hlocks : meth.locks = false) (hrt : meth.sig.returnType = (some .int)) (hU : sU D G s) (hsh : sSh r) (hn : 172 ≤ n) :
    ∀ (k : Nat) (x4 : Int32) (x5 : Int32) (x6 : Int32) (v : sV) (H : Heap) (locs : List Loc) (ls : Array Slot), fx4 (gX7_detour_11 K x1 x2) k x4 x5 x6 v = some res → sB D G (sA ad r n s.heap.size) s.heap ad r v n x H locs → lv_has ls 8 [(0, .ref (ad 157)), (1, .int x1), (2, .int x2), (4, .int x4), (5, .int x5), (6, .int x6)] → W p l e rmX7_detour s m args below meth c H locs 0 0 (MQ below (sQI D G ad r n x s.heap.size res) args s 0 0 (sA ad r n s.heap.size)) (F0 m 11 ls []) := by
  have hx := E.1
  have hb := E.2.1
  have hts := E.2.2.2.2
  intro k
  induction k with
  | zero =>
    intro x4 x5 x6 v H locs ls hf hB hl
    exact fx4_z hf
  | succ k ih =>
    intro x4 x5 x6 v H locs ls hf hB hl
    have hf := (gX7_detour_11.eq_1 ..).symm.trans hf
    refine lv_iload hx hb dX7_detour_11 (lv_at hl 5 rfl) ?_
    refine lv_iconst (v := 4) hx hb dX7_detour_13 rfl ?_
    refine lv_icmp_ge (tgt := 80) hx hb dX7_detour_14 rfl (fun hc => ?_) (fun hc => ?_)
    · have hf := ite_t hf hc
      refine lv_iload hx hb dX7_detour_80 (lv_at hl 3 rfl) ?_
      exact s_iretW E hrt hlocks hB hf dX7_detour_82
    · have hf := ite_f hf hc
      refine lv_aload_n hx hb dX7_detour_17 rfl (lv_at hl 0 rfl) ?_
      refine lv_iload_n hx hb dX7_detour_18 rfl (lv_at hl 1 rfl) ?_
      refine lv_iconst (v := 1) hx hb dX7_detour_19 rfl ?_
      refine sc_R hf (rV_R (As := [.int x1, .int 1]) (rest := []) E hU hB.1 sc9 (slt hsh hn 157 rfl) rfl (mX7_at l D G ad r _ n x hsh hn x1 1) (cwGV 2 okX7_at wmX7_105 hts rfl rfl ⟨Nat.le_of_ble_eq_true rfl, Nat.le_of_ble_eq_true rfl⟩) rfl hl.1 (Nat.le_of_ble_eq_true rfl) dX7_detour_20 ⟨Nat.zero_le _, Nat.zero_le _⟩ rfl) (fun y2 hf => ?_)
      refine lv_iload hx hb dX7_detour_23 (lv_at hl 5 rfl) ?_
      refine sc_R hf (rS_S (As := [.int y2, .int x6]) (rest := []) E (mX7_neighbor l y2 x6) (cwGS 2 okX7_neighbor wmX7_76 hts rfl rfl ⟨Nat.le_of_ble_eq_true rfl, Nat.le_of_ble_eq_true rfl⟩) rfl hl.1 (Nat.le_of_ble_eq_true rfl) dX7_detour_25 ⟨Nat.zero_le _, Nat.zero_le _⟩ rfl) (fun y3 hf => ?_)
      refine lv_istore (lv' := [(7, .int y3), (0, .ref (ad 157)), (1, .int x1), (2, .int x2), (4, .int x4), (5, .int x5), (6, .int x6)]) hx hb dX7_detour_28 hl (Nat.le_of_ble_eq_true rfl) rfl (fun ls hl => ?_)
      refine lv_aload_n hx hb dX7_detour_30 rfl (lv_at hl 1 rfl) ?_
      refine lv_iload hx hb dX7_detour_31 (lv_at hl 0 rfl) ?_
      refine sc_R hf (rV_R (As := [.int y3]) (rest := []) E hU hB.1 sc9 (slt hsh hn 157 rfl) rfl (mX7_isEmpty l K D G ad r _ n x hsh hn y3) (cwGV 1 okX7_isEmpty wmX7_150 hts rfl rfl ⟨Nat.le_of_ble_eq_true rfl, Nat.le_of_ble_eq_true rfl⟩) rfl hl.1 (Nat.le_of_ble_eq_true rfl) dX7_detour_33 ⟨Nat.zero_le _, Nat.zero_le _⟩ rfl) (fun y4 hf => ?_)
      refine lv_if_eq (tgt := 74) hx hb dX7_detour_36 rfl (fun hc => ?_) (fun hc => ?_)
      · have hf := ite_t hf hc
        obtain ⟨z5, ez9, hf⟩ := nm_x hf
        refine lv_iinc (v := z5) (lv' := [(6, .int z5), (7, .int y3), (0, .ref (ad 157)), (1, .int x1), (2, .int x2), (4, .int x4), (5, .int x5)]) hx hb dX7_detour_74 hl (k := 6) rfl (by rw [ez9]; rfl) (Nat.le_of_ble_eq_true rfl) rfl (fun ls hl => ?_)
        refine lv_goto (tgt := 11) hx hb dX7_detour_77 rfl ?_
        exact ih _ _ _ _ _ _ _ hf hB (lv_sub hl [2, 3, 4, 5, 6, 0] rfl)
      · have hf := ite_f hf hc
        refine lv_aload_n hx hb dX7_detour_39 rfl (lv_at hl 1 rfl) ?_
        refine lv_iload_n hx hb dX7_detour_40 rfl (lv_at hl 3 rfl) ?_
        refine lv_iload hx hb dX7_detour_41 (lv_at hl 0 rfl) ?_
        refine sc_I hB (fun q h => Or.inr h) hf (fun q9 h9 => rV_W (As := [.int x2, .int y3]) (rest := []) E hU hB sc9 (slt hsh hn 157 rfl) rfl ((mX7_far l K D G ad r _ n x hsh hn x2 y3) _ _ h9) (cwGV 2 okX7_far wmX7_87 hts rfl rfl ⟨Nat.le_of_ble_eq_true rfl, Nat.le_of_ble_eq_true rfl⟩) rfl hl.1 (Nat.le_of_ble_eq_true rfl) dX7_detour_43 ⟨Nat.zero_le _, Nat.zero_le _⟩ rfl) (fun y7 v6 hf H locs hB => ?_)
        refine lv_if_lt (tgt := 74) hx hb dX7_detour_46 rfl (fun hc => ?_) (fun hc => ?_)
        · have hf := ite_t hf hc
          obtain ⟨z8, ez9, hf⟩ := nm_x hf
          refine lv_iinc (v := z8) (lv' := [(6, .int z8), (7, .int y3), (0, .ref (ad 157)), (1, .int x1), (2, .int x2), (4, .int x4), (5, .int x5)]) hx hb dX7_detour_74 hl (k := 6) rfl (by rw [ez9]; rfl) (Nat.le_of_ble_eq_true rfl) rfl (fun ls hl => ?_)
          refine lv_goto (tgt := 11) hx hb dX7_detour_77 rfl ?_
          exact ih _ _ _ _ _ _ _ hf hB (lv_sub hl [2, 3, 4, 5, 6, 0] rfl)
        · have hf := ite_f hf hc
          refine lv_aload_n hx hb dX7_detour_49 rfl (lv_at hl 1 rfl) ?_
          refine lv_iload_n hx hb dX7_detour_50 rfl (lv_at hl 3 rfl) ?_
          refine lv_iload hx hb dX7_detour_51 (lv_at hl 0 rfl) ?_
          refine sc_I hB (fun q h => Or.inr h) hf (fun q9 h9 => rV_W (As := [.int x2, .int y3]) (rest := []) E hU hB sc9 (slt hsh hn 157 rfl) rfl ((mX7_far l K D G ad r _ n x hsh hn x2 y3) _ _ h9) (cwGV 2 okX7_far wmX7_87 hts rfl rfl ⟨Nat.le_of_ble_eq_true rfl, Nat.le_of_ble_eq_true rfl⟩) rfl hl.1 (Nat.le_of_ble_eq_true rfl) dX7_detour_53 ⟨Nat.zero_le _, Nat.zero_le _⟩ rfl) (fun y10 v9 hf H locs hB => ?_)
          refine lv_iload hx hb dX7_detour_56 (lv_at hl 5 rfl) ?_
          refine lv_icmp_ge (tgt := 74) hx hb dX7_detour_58 rfl (fun hc => ?_) (fun hc => ?_)
          · have hf := ite_t hf hc
            obtain ⟨z11, ez9, hf⟩ := nm_x hf
            refine lv_iinc (v := z11) (lv' := [(6, .int z11), (7, .int y3), (0, .ref (ad 157)), (1, .int x1), (2, .int x2), (4, .int x4), (5, .int x5)]) hx hb dX7_detour_74 hl (k := 6) rfl (by rw [ez9]; rfl) (Nat.le_of_ble_eq_true rfl) rfl (fun ls hl => ?_)
            refine lv_goto (tgt := 11) hx hb dX7_detour_77 rfl ?_
            exact ih _ _ _ _ _ _ _ hf hB (lv_sub hl [2, 3, 4, 5, 6, 0] rfl)
          · have hf := ite_f hf hc
            refine lv_iload hx hb dX7_detour_61 (lv_at hl 6 rfl) ?_
            refine lv_istore (lv' := [(4, .int x6), (7, .int y3), (0, .ref (ad 157)), (1, .int x1), (2, .int x2), (5, .int x5), (6, .int x6)]) hx hb dX7_detour_63 hl (Nat.le_of_ble_eq_true rfl) rfl (fun ls hl => ?_)
            refine lv_aload_n hx hb dX7_detour_65 rfl (lv_at hl 2 rfl) ?_
            refine lv_iload_n hx hb dX7_detour_66 rfl (lv_at hl 4 rfl) ?_
            refine lv_iload hx hb dX7_detour_67 (lv_at hl 1 rfl) ?_
            refine sc_I hB (fun q h => Or.inr h) hf (fun q9 h9 => rV_W (As := [.int x2, .int y3]) (rest := []) E hU hB sc9 (slt hsh hn 157 rfl) rfl ((mX7_far l K D G ad r _ n x hsh hn x2 y3) _ _ h9) (cwGV 2 okX7_far wmX7_87 hts rfl rfl ⟨Nat.le_of_ble_eq_true rfl, Nat.le_of_ble_eq_true rfl⟩) rfl hl.1 (Nat.le_of_ble_eq_true rfl) dX7_detour_69 ⟨Nat.zero_le _, Nat.zero_le _⟩ rfl) (fun y13 v12 hf H locs hB => ?_)
            refine lv_istore (lv' := [(5, .int y13), (4, .int x6), (7, .int y3), (0, .ref (ad 157)), (1, .int x1), (2, .int x2), (6, .int x6)]) hx hb dX7_detour_72 hl (Nat.le_of_ble_eq_true rfl) rfl (fun ls hl => ?_)
            obtain ⟨z14, ez9, hf⟩ := nm_x hf
            refine lv_iinc (v := z14) (lv' := [(6, .int z14), (5, .int y13), (4, .int x6), (7, .int y3), (0, .ref (ad 157)), (1, .int x1), (2, .int x2)]) hx hb dX7_detour_74 hl (k := 6) rfl (by rw [ez9]; rfl) (Nat.le_of_ble_eq_true rfl) rfl (fun ls hl => ?_)
            refine lv_goto (tgt := 11) hx hb dX7_detour_77 rfl ?_
            exact ih _ _ _ _ _ _ _ hf hB (lv_sub hl [4, 5, 6, 2, 1, 0] rfl)
set_option maxRecDepth 100000 in
set_option maxHeartbeats 4000000 in
theorem mX7_detour (l : Launch) (K : Nat) (D : va_G) (G : Nat → ClassId) (ad : Nat → Nat) (r : sR) (v : sV) (n : Nat) (x : Int64 × UInt64) (hsh : sSh r) (hn : 172 ≤ n) (x1 : Int32) (x2 : Int32) (x3 : Int32) : sMI l yX7_detour (.code yX7_detour cX7_detour 8 (some .int) :: wsL_law) rmX7_detour D G ad r v n x [.ref (ad 157), .int x1, .int x2, .int x3] (fX7_detour K x1 x2 x3 v) := by
  intro sz res hf
  refine Met.ofW (cc := cX7_detour) (maxL := 8) (ret := (some .int)) (by decide) rfl ?_
  intro p e s m args below meth c s₁ B hml hv
  obtain ⟨rfl, rfl, hU, hP, hD⟩ := hv
  have hx := B.exec
  have hb := B.bytes
  have hrt := B.returns
  have hts : ∀ w ∈ wsL_law, w.before _ s = true := fun w hw => atoms_spec (ws := .code yX7_detour cX7_detour 8 (some .int) :: wsL_law) B.pre w (List.mem_cons_of_mem _ hw)
  have hlocks := B.notSynchronized
  have E : CallFix p m c cX7_detour 8 s ([.ref (ad 157), .int x1, .int x2, .int x3] : List Value).toArray wsL_law RX7 := ⟨hx, hb, hml, findClass_of_methodNamed B.named, hts⟩
  have hB : sB D G (sA ad r n s.heap.size) s.heap ad r v n x s.heap [] := ⟨hP, sD_self hD, va_S.rf⟩
  have hl := lv_entry ([.ref (ad 157), .int x1, .int x2, .int x3]) (n := 8) (Nat.le_of_ble_eq_true rfl)
  rw [lg_entry_eq]
  generalize (lg_sl ([.ref (ad 157), .int x1, .int x2, .int x3]) ++ List.replicate (8 - (lg_sl ([.ref (ad 157), .int x1, .int x2, .int x3])).length) Slot.unset).toArray = ls at hl ⊢
  have hl : lv_has ls 8 [(0, .ref (ad 157)), (1, .int x1), (2, .int x2), (3, .int x3)] := hl
  have hf := (fX7_detour.eq_1 ..).symm.trans hf
  refine lv_iconst (v := (-1)) hx hb dX7_detour_0 rfl ?_
  refine lv_istore (lv' := [(4, .int (-1)), (0, .ref (ad 157)), (1, .int x1), (2, .int x2), (3, .int x3)]) hx hb dX7_detour_1 hl (Nat.le_of_ble_eq_true rfl) rfl (fun ls hl => ?_)
  refine lv_iload_n hx hb dX7_detour_3 rfl (lv_at hl 4 rfl) ?_
  refine lv_iconst (v := 3) hx hb dX7_detour_4 rfl ?_
  refine lv_iadd hx hb dX7_detour_5 ?_
  refine s_nm hf (fun z1 hf => ?_)
  refine lv_istore (lv' := [(5, .int z1), (4, .int (-1)), (0, .ref (ad 157)), (1, .int x1), (2, .int x2), (3, .int x3)]) hx hb dX7_detour_6 hl (Nat.le_of_ble_eq_true rfl) rfl (fun ls hl => ?_)
  refine lv_iconst (v := 0) hx hb dX7_detour_8 rfl ?_
  refine lv_istore (lv' := [(6, .int 0), (5, .int z1), (4, .int (-1)), (0, .ref (ad 157)), (1, .int x1), (2, .int x2), (3, .int x3)]) hx hb dX7_detour_9 hl (Nat.le_of_ble_eq_true rfl) rfl (fun ls hl => ?_)
  exact lX7_detour_11 E hlocks hrt hU hsh hn _ _ _ _ _ _ _ _ hf hB (lv_sub hl [3, 4, 5, 2, 1, 0] rfl)
abbrev rmX7_waits : Room := { frames := 1, cells := 0, slots := 0, locals := 23 }
set_option maxRecDepth 100000 in
set_option maxHeartbeats 4000000 in
theorem mX7_waits (l : Launch) (D : va_G) (G : Nat → ClassId) (ad : Nat → Nat) (r : sR) (v : sV) (n : Nat) (x : Int64 × UInt64) (hsh : sSh r) (hn : 172 ≤ n) (x1 : Int32) : sMV l yX7_waits (.code yX7_waits cX7_waits 2 none :: wsL_law) rmX7_waits D G ad r v n x [.ref (ad 157), .int x1] (fX7_waits x1 v) := by
  intro sz res hf
  refine Met.ofW (cc := cX7_waits) (maxL := 2) (ret := none) (by decide) rfl ?_
  intro p e s m args below meth c s₁ B hml hv
  obtain ⟨rfl, rfl, hU, hP, hD⟩ := hv
  have hx := B.exec
  have hb := B.bytes
  have hrt := B.returns
  have hts : ∀ w ∈ wsL_law, w.before _ s = true := fun w hw => atoms_spec (ws := .code yX7_waits cX7_waits 2 none :: wsL_law) B.pre w (List.mem_cons_of_mem _ hw)
  have hlocks := B.notSynchronized
  have E : CallFix p m c cX7_waits 2 s ([.ref (ad 157), .int x1] : List Value).toArray wsL_law RX7 := ⟨hx, hb, hml, findClass_of_methodNamed B.named, hts⟩
  have hB : sB D G (sA ad r n s.heap.size) s.heap ad r v n x s.heap [] := ⟨hP, sD_self hD, va_S.rf⟩
  have hl := lv_entry ([.ref (ad 157), .int x1]) (n := 2) (Nat.le_of_ble_eq_true rfl)
  rw [lg_entry_eq]
  generalize (lg_sl ([.ref (ad 157), .int x1]) ++ List.replicate (2 - (lg_sl ([.ref (ad 157), .int x1])).length) Slot.unset).toArray = ls at hl ⊢
  have hl : lv_has ls 2 [(0, .ref (ad 157)), (1, .int x1)] := hl
  have hf := (fX7_waits.eq_1 ..).symm.trans hf
  refine lv_aload_n hx hb dX7_waits_0 rfl (lv_at hl 0 rfl) ?_
  refine lv_iload_n hx hb dX7_waits_1 rfl (lv_at hl 1 rfl) ?_
  refine lv_iconst (v := 5) hx hb dX7_waits_2 rfl ?_
  refine lv_aload_n hx hb dX7_waits_3 rfl (lv_at hl 0 rfl) ?_
  refine lv_iload_n hx hb dX7_waits_4 rfl (lv_at hl 1 rfl) ?_
  refine lv_iconst (v := 5) hx hb dX7_waits_5 rfl ?_
  refine sc_R hf (rV_R (As := [.int x1, .int 5]) (rest := [.int 5, .int x1, .ref (ad 157)]) E hU hB.1 sc9 (slt hsh hn 157 rfl) rfl (mX7_at l D G ad r _ n x hsh hn x1 5) (cwGV 2 okX7_at wmX7_105 hts rfl rfl ⟨Nat.le_of_ble_eq_true rfl, Nat.le_of_ble_eq_true rfl⟩) rfl hl.1 (Nat.le_of_ble_eq_true rfl) dX7_waits_6 ⟨Nat.zero_le _, Nat.zero_le _⟩ rfl) (fun y1 hf => ?_)
  refine lv_iconst (v := 1) hx hb dX7_waits_9 rfl ?_
  refine lv_iadd hx hb dX7_waits_10 ?_
  refine sc_V hB (fun q h => Or.inr h) hf (fun q9 h9 => rV_W (As := [.int x1, .int 5, .int (y1 + 1)]) (rest := []) E hU hB sc9 (slt hsh hn 157 rfl) rfl ((mX7_put l D G ad r _ n x hsh hn x1 5 (y1 + 1)) _ _ h9) (cwGV 3 okX7_put wmX7_119 hts rfl rfl ⟨Nat.le_of_ble_eq_true rfl, Nat.le_of_ble_eq_true rfl⟩) rfl hl.1 (Nat.le_of_ble_eq_true rfl) dX7_waits_11 ⟨Nat.zero_le _, Nat.zero_le _⟩ rfl) (fun v2 hf H locs hB => ?_)
  refine lv_aload_n hx hb dX7_waits_14 rfl (lv_at hl 0 rfl) ?_
  refine s_getR (k := 0) (t := 158) E hU hB.1 sc9 (slt hsh hn 157 rfl) rfl inlX7 (Nat.le_of_ble_eq_true rfl) rfl rfl wkX7_9 (hsh.1 157 0 158 rfl) dX7_waits_15 ?_
  refine lv_sipush (v := 289) hx hb dX7_waits_18 rfl ?_
  refine lv_dup2_11 hx hb dX7_waits_21 rfl rfl ?_
  refine s_iald E hU hB.1 (slt hsh hn 158 rfl) rfl dX7_waits_22 hf (fun y3 hf => ?_)
  refine lv_iconst (v := 1) hx hb dX7_waits_23 rfl ?_
  refine lv_iadd hx hb dX7_waits_24 ?_
  refine s_iast E hU hB (slt hsh hn 158 rfl) rfl dX7_waits_25 hf (fun v4 hf H locs hB => ?_)
  exact s_vretW E hrt hlocks hB hf dX7_waits_26
abbrev rmX7_turns : Room := { frames := 7, cells := 0, slots := 0, locals := 165 }
set_option maxRecDepth 100000 in
set_option maxHeartbeats 4000000 in
theorem wX7_turns_187 {K : Nat} {x1 : Int32} {t0 : Int32} {res : sV} (E : CallFix p m c cX7_turns 8 s args wsL_law RX7) (hlocks : meth.locks = false) (hrt : meth.sig.returnType = none) (hU : sU D G s) (hsh : sSh r) (hn : 172 ≤ n) {v : sV} {H : Heap} {locs : List Loc} (hB : sB D G (sA ad r n s.heap.size) s.heap ad r v n x H locs) {ls : Array Slot} (hf : bX7_turns_187 K x1 t0 v = some res) (hl : lv_has ls 8 [(0, .ref (ad 157)), (1, .int x1)]) :
    W p l e rmX7_turns s m args below meth c H locs 0 0 (MQ below (sQV D G ad r n x s.heap.size res) args s 0 0 (sA ad r n s.heap.size)) (F0 m 187 ls [.int t0]) := by
  have hx := E.1
  have hb := E.2.1
  have hts := E.2.2.2.2
  have hf := (bX7_turns_187.eq_1 ..).symm.trans hf
  refine lv_istore (lv' := [(7, .int t0), (0, .ref (ad 157)), (1, .int x1)]) hx hb dX7_turns_187 hl (Nat.le_of_ble_eq_true rfl) rfl (fun ls hl => ?_)
  refine lv_iload hx hb dX7_turns_189 (lv_at hl 0 rfl) ?_
  refine lv_if_ge (tgt := 200) hx hb dX7_turns_191 rfl (fun hc => ?_) (fun hc => ?_)
  · have hf := ite_t hf hc
    refine lv_aload_n hx hb dX7_turns_200 rfl (lv_at hl 1 rfl) ?_
    refine lv_iload_n hx hb dX7_turns_201 rfl (lv_at hl 2 rfl) ?_
    refine lv_iload hx hb dX7_turns_202 (lv_at hl 0 rfl) ?_
    refine sc_V hB (fun q h => Or.inr h) hf (fun q9 h9 => rV_W (As := [.int x1, .int t0]) (rest := []) E hU hB sc9 (slt hsh hn 157 rfl) rfl ((mX7_movesItself l D G ad r _ n x hsh hn x1 t0) _ _ h9) (cwGV 2 okX7_movesItself wmX7_159 hts rfl rfl ⟨Nat.le_of_ble_eq_true rfl, Nat.le_of_ble_eq_true rfl⟩) rfl hl.1 (Nat.le_of_ble_eq_true rfl) dX7_turns_204 ⟨Nat.zero_le _, Nat.zero_le _⟩ rfl) (fun v16 hf H locs hB => ?_)
    refine lv_aload_n hx hb dX7_turns_207 rfl (lv_at hl 1 rfl) ?_
    refine s_getR (k := 0) (t := 158) E hU hB.1 sc9 (slt hsh hn 157 rfl) rfl inlX7 (Nat.le_of_ble_eq_true rfl) rfl rfl wkX7_9 (hsh.1 157 0 158 rfl) dX7_turns_208 ?_
    refine lv_sipush (v := 288) hx hb dX7_turns_211 rfl ?_
    refine lv_dup2_11 hx hb dX7_turns_214 rfl rfl ?_
    refine s_iald E hU hB.1 (slt hsh hn 158 rfl) rfl dX7_turns_215 hf (fun y17 hf => ?_)
    refine lv_iconst (v := 1) hx hb dX7_turns_216 rfl ?_
    refine lv_iadd hx hb dX7_turns_217 ?_
    refine s_iast E hU hB (slt hsh hn 158 rfl) rfl dX7_turns_218 hf (fun v18 hf H locs hB => ?_)
    exact s_vretW E hrt hlocks hB hf dX7_turns_219
  · have hf := ite_f hf hc
    refine lv_aload_n hx hb dX7_turns_194 rfl (lv_at hl 1 rfl) ?_
    refine lv_iload_n hx hb dX7_turns_195 rfl (lv_at hl 2 rfl) ?_
    refine sc_V hB (fun q h => Or.inr h) hf (fun q9 h9 => rV_W (As := [.int x1]) (rest := []) E hU hB sc9 (slt hsh hn 157 rfl) rfl ((mX7_waits l D G ad r _ n x hsh hn x1) _ _ h9) (cwGV 1 okX7_waits wmX7_153 hts rfl rfl ⟨Nat.le_of_ble_eq_true rfl, Nat.le_of_ble_eq_true rfl⟩) rfl hl.1 (Nat.le_of_ble_eq_true rfl) dX7_turns_196 ⟨Nat.zero_le _, Nat.zero_le _⟩ rfl) (fun v19 hf H locs hB => ?_)
    exact s_vretW E hrt hlocks hB hf dX7_turns_199
set_option maxRecDepth 100000 in
set_option maxHeartbeats 4000000 in
theorem wX7_turns_159 {K : Nat} {x1 : Int32} {x2 : Int32} {x3 : Int32} {res : sV} (E : CallFix p m c cX7_turns 8 s args wsL_law RX7) (hlocks : meth.locks = false) (hrt : meth.sig.returnType = none) (hU : sU D G s) (hsh : sSh r) (hn : 172 ≤ n) {v : sV} {H : Heap} {locs : List Loc} (hB : sB D G (sA ad r n s.heap.size) s.heap ad r v n x H locs) {ls : Array Slot} (hf : bX7_turns_159 K x1 x2 x3 v = some res) (hl : lv_has ls 8 [(0, .ref (ad 157)), (1, .int x1), (2, .int x2), (3, .int x3)]) :
    W p l e rmX7_turns s m args below meth c H locs 0 0 (MQ below (sQV D G ad r n x s.heap.size res) args s 0 0 (sA ad r n s.heap.size)) (F0 m 159 ls []) := by
  have hx := E.1
  have hb := E.2.1
  have hts := E.2.2.2.2
  have hf := (bX7_turns_159.eq_1 ..).symm.trans hf
  refine lv_aload_n hx hb dX7_turns_159 rfl (lv_at hl 0 rfl) ?_
  refine lv_iload_n hx hb dX7_turns_160 rfl (lv_at hl 1 rfl) ?_
  refine lv_iconst (v := 5) hx hb dX7_turns_161 rfl ?_
  refine sc_R hf (rV_R (As := [.int x1, .int 5]) (rest := []) E hU hB.1 sc9 (slt hsh hn 157 rfl) rfl (mX7_at l D G ad r _ n x hsh hn x1 5) (cwGV 2 okX7_at wmX7_105 hts rfl rfl ⟨Nat.le_of_ble_eq_true rfl, Nat.le_of_ble_eq_true rfl⟩) rfl hl.1 (Nat.le_of_ble_eq_true rfl) dX7_turns_162 ⟨Nat.zero_le _, Nat.zero_le _⟩ rfl) (fun y14 hf => ?_)
  refine lv_aload_n hx hb dX7_turns_165 rfl (lv_at hl 0 rfl) ?_
  refine s_getR (k := 0) (t := 158) E hU hB.1 sc9 (slt hsh hn 157 rfl) rfl inlX7 (Nat.le_of_ble_eq_true rfl) rfl rfl wkX7_9 (hsh.1 157 0 158 rfl) dX7_turns_166 ?_
  refine lv_sipush (v := 284) hx hb dX7_turns_169 rfl ?_
  refine s_iald E hU hB.1 (slt hsh hn 158 rfl) rfl dX7_turns_172 hf (fun y15 hf => ?_)
  refine lv_icmp_lt (tgt := 186) hx hb dX7_turns_173 rfl (fun hc => ?_) (fun hc => ?_)
  · have hf := ite_t hf hc
    refine lv_iconst (v := (-1)) hx hb dX7_turns_186 rfl ?_
    exact wX7_turns_187 E hlocks hrt hU hsh hn hB hf (lv_sub hl [0, 1] rfl)
  · have hf := ite_f hf hc
    refine lv_aload_n hx hb dX7_turns_176 rfl (lv_at hl 0 rfl) ?_
    refine lv_iload_n hx hb dX7_turns_177 rfl (lv_at hl 1 rfl) ?_
    refine lv_iload_n hx hb dX7_turns_178 rfl (lv_at hl 2 rfl) ?_
    refine lv_iload_n hx hb dX7_turns_179 rfl (lv_at hl 3 rfl) ?_
    refine sc_I hB (fun q h => Or.inr h) hf (fun q9 h9 => rV_W (As := [.int x1, .int x2, .int x3]) (rest := []) E hU hB sc9 (slt hsh hn 157 rfl) rfl ((mX7_detour l K D G ad r _ n x hsh hn x1 x2 x3) _ _ h9) (cwGV 3 okX7_detour wmX7_162 hts rfl rfl ⟨Nat.le_of_ble_eq_true rfl, Nat.le_of_ble_eq_true rfl⟩) rfl hl.1 (Nat.le_of_ble_eq_true rfl) dX7_turns_180 ⟨Nat.zero_le _, Nat.zero_le _⟩ rfl) (fun y21 v20 hf H locs hB => ?_)
    refine lv_goto (tgt := 187) hx hb dX7_turns_183 rfl ?_
    exact wX7_turns_187 E hlocks hrt hU hsh hn hB hf (lv_sub hl [0, 1] rfl)
set_option maxRecDepth 100000 in
set_option maxHeartbeats 4000000 in
theorem wX7_turns_130 {K : Nat} {x1 : Int32} {x2 : Int32} {x3 : Int32} {x4 : Int32} {x5 : Int32} {t0 : Int32} {res : sV} (E : CallFix p m c cX7_turns 8 s args wsL_law RX7) (hlocks : meth.locks = false) (hrt : meth.sig.returnType = none) (hU : sU D G s) (hsh : sSh r) (hn : 172 ≤ n) {v : sV} {H : Heap} {locs : List Loc} (hB : sB D G (sA ad r n s.heap.size) s.heap ad r v n x H locs) {ls : Array Slot} (hf : bX7_turns_130 K x1 x2 x3 x4 x5 t0 v = some res) (hl : lv_has ls 8 [(0, .ref (ad 157)), (1, .int x1), (2, .int x2), (3, .int x3), (4, .int x4), (5, .int x5)]) :
    W p l e rmX7_turns s m args below meth c H locs 0 0 (MQ below (sQV D G ad r n x s.heap.size res) args s 0 0 (sA ad r n s.heap.size)) (F0 m 130 ls [.int t0]) := by
  have hx := E.1
  have hb := E.2.1
  have hts := E.2.2.2.2
  have hf := (bX7_turns_130.eq_1 ..).symm.trans hf
  refine lv_istore (lv' := [(6, .int t0), (0, .ref (ad 157)), (1, .int x1), (2, .int x2), (3, .int x3), (4, .int x4), (5, .int x5)]) hx hb dX7_turns_130 hl (Nat.le_of_ble_eq_true rfl) rfl (fun ls hl => ?_)
  refine lv_iload hx hb dX7_turns_132 (lv_at hl 6 rfl) ?_
  refine lv_if_lt (tgt := 151) hx hb dX7_turns_134 rfl (fun hc => ?_) (fun hc => ?_)
  · have hf := ite_t hf hc
    refine lv_aload_n hx hb dX7_turns_151 rfl (lv_at hl 1 rfl) ?_
    refine lv_iload_n hx hb dX7_turns_152 rfl (lv_at hl 2 rfl) ?_
    refine lv_iload hx hb dX7_turns_153 (lv_at hl 5 rfl) ?_
    refine sc_V hB (fun q h => Or.inr h) hf (fun q9 h9 => rV_W (As := [.int x1, .int x4]) (rest := []) E hU hB sc9 (slt hsh hn 157 rfl) rfl ((mX7_movesItself l D G ad r _ n x hsh hn x1 x4) _ _ h9) (cwGV 2 okX7_movesItself wmX7_159 hts rfl rfl ⟨Nat.le_of_ble_eq_true rfl, Nat.le_of_ble_eq_true rfl⟩) rfl hl.1 (Nat.le_of_ble_eq_true rfl) dX7_turns_155 ⟨Nat.zero_le _, Nat.zero_le _⟩ rfl) (fun v13 hf H locs hB => ?_)
    exact s_vretW E hrt hlocks hB hf dX7_turns_158
  · have hf := ite_f hf hc
    refine lv_iload hx hb dX7_turns_137 (lv_at hl 0 rfl) ?_
    refine lv_if_eq (tgt := 159) hx hb dX7_turns_139 rfl (fun hc => ?_) (fun hc => ?_)
    · have hf := ite_t hf hc
      exact wX7_turns_159 E hlocks hrt hU hsh hn hB hf (lv_sub hl [1, 2, 3, 4] rfl)
    · have hf := ite_f hf hc
      refine lv_aload_n hx hb dX7_turns_142 rfl (lv_at hl 1 rfl) ?_
      refine lv_iload hx hb dX7_turns_143 (lv_at hl 6 rfl) ?_
      refine sc_I hB (fun q h => Or.inr h) hf (fun q9 h9 => rV_W (As := [.int x5]) (rest := []) E hU hB sc9 (slt hsh hn 157 rfl) rfl ((mX7_isPushed l K D G ad r _ n x hsh hn x5) _ _ h9) (cwGV 1 okX7_isPushed wmX7_156 hts rfl rfl ⟨Nat.le_of_ble_eq_true rfl, Nat.le_of_ble_eq_true rfl⟩) rfl hl.1 (Nat.le_of_ble_eq_true rfl) dX7_turns_145 ⟨Nat.zero_le _, Nat.zero_le _⟩ rfl) (fun y23 v22 hf H locs hB => ?_)
      refine lv_if_eq (tgt := 159) hx hb dX7_turns_148 rfl (fun hc => ?_) (fun hc => ?_)
      · have hf := ite_t hf hc
        exact wX7_turns_159 E hlocks hrt hU hsh hn hB hf (lv_sub hl [1, 2, 3, 4] rfl)
      · have hf := ite_f hf hc
        refine lv_aload_n hx hb dX7_turns_151 rfl (lv_at hl 1 rfl) ?_
        refine lv_iload_n hx hb dX7_turns_152 rfl (lv_at hl 2 rfl) ?_
        refine lv_iload hx hb dX7_turns_153 (lv_at hl 5 rfl) ?_
        refine sc_V hB (fun q h => Or.inr h) hf (fun q9 h9 => rV_W (As := [.int x1, .int x4]) (rest := []) E hU hB sc9 (slt hsh hn 157 rfl) rfl ((mX7_movesItself l D G ad r _ n x hsh hn x1 x4) _ _ h9) (cwGV 2 okX7_movesItself wmX7_159 hts rfl rfl ⟨Nat.le_of_ble_eq_true rfl, Nat.le_of_ble_eq_true rfl⟩) rfl hl.1 (Nat.le_of_ble_eq_true rfl) dX7_turns_155 ⟨Nat.zero_le _, Nat.zero_le _⟩ rfl) (fun v24 hf H locs hB => ?_)
        exact s_vretW E hrt hlocks hB hf dX7_turns_158
set_option maxRecDepth 100000 in
set_option maxHeartbeats 4000000 in
theorem mX7_turns (l : Launch) (K : Nat) (D : va_G) (G : Nat → ClassId) (ad : Nat → Nat) (r : sR) (v : sV) (n : Nat) (x : Int64 × UInt64) (hsh : sSh r) (hn : 172 ≤ n) (x1 : Int32) : sMV l yX7_turns (.code yX7_turns cX7_turns 8 none :: wsL_law) rmX7_turns D G ad r v n x [.ref (ad 157), .int x1] (fX7_turns K x1 v) := by
  intro sz res hf
  refine Met.ofW (cc := cX7_turns) (maxL := 8) (ret := none) (by decide) rfl ?_
  intro p e s m args below meth c s₁ B hml hv
  obtain ⟨rfl, rfl, hU, hP, hD⟩ := hv
  have hx := B.exec
  have hb := B.bytes
  have hrt := B.returns
  have hts : ∀ w ∈ wsL_law, w.before _ s = true := fun w hw => atoms_spec (ws := .code yX7_turns cX7_turns 8 none :: wsL_law) B.pre w (List.mem_cons_of_mem _ hw)
  have hlocks := B.notSynchronized
  have E : CallFix p m c cX7_turns 8 s ([.ref (ad 157), .int x1] : List Value).toArray wsL_law RX7 := ⟨hx, hb, hml, findClass_of_methodNamed B.named, hts⟩
  have hB : sB D G (sA ad r n s.heap.size) s.heap ad r v n x s.heap [] := ⟨hP, sD_self hD, va_S.rf⟩
  have hl := lv_entry ([.ref (ad 157), .int x1]) (n := 8) (Nat.le_of_ble_eq_true rfl)
  rw [lg_entry_eq]
  generalize (lg_sl ([.ref (ad 157), .int x1]) ++ List.replicate (8 - (lg_sl ([.ref (ad 157), .int x1])).length) Slot.unset).toArray = ls at hl ⊢
  have hl : lv_has ls 8 [(0, .ref (ad 157)), (1, .int x1)] := hl
  have hf := (fX7_turns.eq_1 ..).symm.trans hf
  refine lv_aload_n hx hb dX7_turns_0 rfl (lv_at hl 0 rfl) ?_
  refine lv_iload_n hx hb dX7_turns_1 rfl (lv_at hl 1 rfl) ?_
  refine sc_R hf (rV_R (As := [.int x1]) (rest := []) E hU hB.1 sc9 (slt hsh hn 157 rfl) rfl (mX7_isSettled l D G ad r _ n x hsh hn x1) (cwGV 1 okX7_isSettled wmX7_129 hts rfl rfl ⟨Nat.le_of_ble_eq_true rfl, Nat.le_of_ble_eq_true rfl⟩) rfl hl.1 (Nat.le_of_ble_eq_true rfl) dX7_turns_2 ⟨Nat.zero_le _, Nat.zero_le _⟩ rfl) (fun y1 hf => ?_)
  refine lv_if_eq (tgt := 16) hx hb dX7_turns_5 rfl (fun hc => ?_) (fun hc => ?_)
  · have hf := ite_t hf hc
    refine lv_aload_n hx hb dX7_turns_16 rfl (lv_at hl 0 rfl) ?_
    refine s_getR (k := 12) (t := 167) E hU hB.1 sc9 (slt hsh hn 157 rfl) rfl inlX7 (Nat.le_of_ble_eq_true rfl) rfl rfl wkX7_38 (hsh.1 157 12 167 rfl) dX7_turns_17 ?_
    refine lv_iload_n hx hb dX7_turns_20 rfl (lv_at hl 1 rfl) ?_
    refine s_zald E hU hB.1 (slt hsh hn 167 rfl) rfl dX7_turns_21 hf (fun y2 hf => ?_)
    refine lv_if_eq (tgt := 26) hx hb dX7_turns_22 rfl (fun hc => ?_) (fun hc => ?_)
    · have hf := ite_t hf hc
      refine lv_aload_n hx hb dX7_turns_26 rfl (lv_at hl 0 rfl) ?_
      refine lv_iload_n hx hb dX7_turns_27 rfl (lv_at hl 1 rfl) ?_
      refine sc_R hf (rV_R (As := [.int x1]) (rest := []) E hU hB.1 sc9 (slt hsh hn 157 rfl) rfl (mX7_target l D G ad r _ n x hsh hn x1) (cwGV 1 okX7_target wmX7_123 hts rfl rfl ⟨Nat.le_of_ble_eq_true rfl, Nat.le_of_ble_eq_true rfl⟩) rfl hl.1 (Nat.le_of_ble_eq_true rfl) dX7_turns_28 ⟨Nat.zero_le _, Nat.zero_le _⟩ rfl) (fun y3 hf => ?_)
      refine lv_istore_n (lv' := [(2, .int y3), (0, .ref (ad 157)), (1, .int x1)]) hx hb dX7_turns_31 rfl hl (Nat.le_of_ble_eq_true rfl) rfl (fun ls hl => ?_)
      refine lv_aload_n hx hb dX7_turns_32 rfl (lv_at hl 1 rfl) ?_
      refine lv_iload_n hx hb dX7_turns_33 rfl (lv_at hl 0 rfl) ?_
      refine lv_aload_n hx hb dX7_turns_34 rfl (lv_at hl 1 rfl) ?_
      refine lv_iload_n hx hb dX7_turns_35 rfl (lv_at hl 2 rfl) ?_
      refine lv_iconst (v := 1) hx hb dX7_turns_36 rfl ?_
      refine sc_R hf (rV_R (As := [.int x1, .int 1]) (rest := [.int y3, .ref (ad 157)]) E hU hB.1 sc9 (slt hsh hn 157 rfl) rfl (mX7_at l D G ad r _ n x hsh hn x1 1) (cwGV 2 okX7_at wmX7_105 hts rfl rfl ⟨Nat.le_of_ble_eq_true rfl, Nat.le_of_ble_eq_true rfl⟩) rfl hl.1 (Nat.le_of_ble_eq_true rfl) dX7_turns_37 ⟨Nat.zero_le _, Nat.zero_le _⟩ rfl) (fun y4 hf => ?_)
      refine sc_I hB (fun q h => Or.inr h) hf (fun q9 h9 => rV_W (As := [.int y3, .int y4]) (rest := []) E hU hB sc9 (slt hsh hn 157 rfl) rfl ((mX7_far l K D G ad r _ n x hsh hn y3 y4) _ _ h9) (cwGV 2 okX7_far wmX7_87 hts rfl rfl ⟨Nat.le_of_ble_eq_true rfl, Nat.le_of_ble_eq_true rfl⟩) rfl hl.1 (Nat.le_of_ble_eq_true rfl) dX7_turns_40 ⟨Nat.zero_le _, Nat.zero_le _⟩ rfl) (fun y6 v5 hf H locs hB => ?_)
      refine lv_istore_n (lv' := [(3, .int y6), (2, .int y3), (0, .ref (ad 157)), (1, .int x1)]) hx hb dX7_turns_43 rfl hl (Nat.le_of_ble_eq_true rfl) rfl (fun ls hl => ?_)
      refine lv_iload_n hx hb dX7_turns_44 rfl (lv_at hl 0 rfl) ?_
      refine lv_if_ge (tgt := 54) hx hb dX7_turns_45 rfl (fun hc => ?_) (fun hc => ?_)
      · have hf := ite_t hf hc
        refine lv_aload_n hx hb dX7_turns_54 rfl (lv_at hl 2 rfl) ?_
        refine lv_iload_n hx hb dX7_turns_55 rfl (lv_at hl 1 rfl) ?_
        refine lv_aload_n hx hb dX7_turns_56 rfl (lv_at hl 2 rfl) ?_
        refine lv_iload_n hx hb dX7_turns_57 rfl (lv_at hl 3 rfl) ?_
        refine lv_iconst (v := 1) hx hb dX7_turns_58 rfl ?_
        refine sc_R hf (rV_R (As := [.int x1, .int 1]) (rest := [.int y3, .ref (ad 157)]) E hU hB.1 sc9 (slt hsh hn 157 rfl) rfl (mX7_at l D G ad r _ n x hsh hn x1 1) (cwGV 2 okX7_at wmX7_105 hts rfl rfl ⟨Nat.le_of_ble_eq_true rfl, Nat.le_of_ble_eq_true rfl⟩) rfl hl.1 (Nat.le_of_ble_eq_true rfl) dX7_turns_59 ⟨Nat.zero_le _, Nat.zero_le _⟩ rfl) (fun y7 hf => ?_)
        refine sc_I hB (fun q h => Or.inr h) hf (fun q9 h9 => rV_W (As := [.int y3, .int y7]) (rest := []) E hU hB sc9 (slt hsh hn 157 rfl) rfl ((mX7_flowOf l K D G ad r _ n x hsh hn y3 y7) _ _ h9) (cwGV 2 okX7_flowOf wmX7_112 hts rfl rfl ⟨Nat.le_of_ble_eq_true rfl, Nat.le_of_ble_eq_true rfl⟩) rfl hl.1 (Nat.le_of_ble_eq_true rfl) dX7_turns_62 ⟨Nat.zero_le _, Nat.zero_le _⟩ rfl) (fun y9 v8 hf H locs hB => ?_)
        refine lv_istore (lv' := [(4, .int y9), (3, .int y6), (2, .int y3), (0, .ref (ad 157)), (1, .int x1)]) hx hb dX7_turns_65 hl (Nat.le_of_ble_eq_true rfl) rfl (fun ls hl => ?_)
        refine lv_aload_n hx hb dX7_turns_67 rfl (lv_at hl 3 rfl) ?_
        refine lv_aload_n hx hb dX7_turns_68 rfl (lv_at hl 3 rfl) ?_
        refine lv_iload_n hx hb dX7_turns_69 rfl (lv_at hl 4 rfl) ?_
        refine lv_iconst (v := 1) hx hb dX7_turns_70 rfl ?_
        refine sc_R hf (rV_R (As := [.int x1, .int 1]) (rest := [.ref (ad 157)]) E hU hB.1 sc9 (slt hsh hn 157 rfl) rfl (mX7_at l D G ad r _ n x hsh hn x1 1) (cwGV 2 okX7_at wmX7_105 hts rfl rfl ⟨Nat.le_of_ble_eq_true rfl, Nat.le_of_ble_eq_true rfl⟩) rfl hl.1 (Nat.le_of_ble_eq_true rfl) dX7_turns_71 ⟨Nat.zero_le _, Nat.zero_le _⟩ rfl) (fun y10 hf => ?_)
        refine lv_iload hx hb dX7_turns_74 (lv_at hl 0 rfl) ?_
        refine sc_R hf (rS_S (As := [.int y10, .int y9]) (rest := [.ref (ad 157)]) E (mX7_neighbor l y10 y9) (cwGS 2 okX7_neighbor wmX7_76 hts rfl rfl ⟨Nat.le_of_ble_eq_true rfl, Nat.le_of_ble_eq_true rfl⟩) rfl hl.1 (Nat.le_of_ble_eq_true rfl) dX7_turns_76 ⟨Nat.zero_le _, Nat.zero_le _⟩ rfl) (fun y11 hf => ?_)
        refine sc_R hf (rV_R (As := [.int y11]) (rest := []) E hU hB.1 sc9 (slt hsh hn 157 rfl) rfl (mX7_agentOn l K D G ad r _ n x hsh hn y11) (cwGV 1 okX7_agentOn wmX7_93 hts rfl rfl ⟨Nat.le_of_ble_eq_true rfl, Nat.le_of_ble_eq_true rfl⟩) rfl hl.1 (Nat.le_of_ble_eq_true rfl) dX7_turns_79 ⟨Nat.zero_le _, Nat.zero_le _⟩ rfl) (fun y12 hf => ?_)
        refine lv_istore (lv' := [(5, .int y12), (4, .int y9), (3, .int y6), (2, .int y3), (0, .ref (ad 157)), (1, .int x1)]) hx hb dX7_turns_82 hl (Nat.le_of_ble_eq_true rfl) rfl (fun ls hl => ?_)
        refine lv_iload hx hb dX7_turns_84 (lv_at hl 0 rfl) ?_
        refine lv_if_lt (tgt := 129) hx hb dX7_turns_86 rfl (fun hc => ?_) (fun hc => ?_)
        · have hf := ite_t hf hc
          refine lv_iconst (v := 0) hx hb dX7_turns_129 rfl ?_
          exact wX7_turns_130 E hlocks hrt hU hsh hn hB hf (lv_sub hl [4, 5, 3, 2, 1, 0] rfl)
        · have hf := ite_f hf hc
          refine lv_aload_n hx hb dX7_turns_89 rfl (lv_at hl 4 rfl) ?_
          refine lv_iload hx hb dX7_turns_90 (lv_at hl 0 rfl) ?_
          refine lv_iconst (v := 3) hx hb dX7_turns_92 rfl ?_
          refine sc_R hf (rV_R (As := [.int y12, .int 3]) (rest := []) E hU hB.1 sc9 (slt hsh hn 157 rfl) rfl (mX7_at l D G ad r _ n x hsh hn y12 3) (cwGV 2 okX7_at wmX7_105 hts rfl rfl ⟨Nat.le_of_ble_eq_true rfl, Nat.le_of_ble_eq_true rfl⟩) rfl hl.1 (Nat.le_of_ble_eq_true rfl) dX7_turns_93 ⟨Nat.zero_le _, Nat.zero_le _⟩ rfl) (fun y25 hf => ?_)
          refine lv_aload_n hx hb dX7_turns_96 rfl (lv_at hl 4 rfl) ?_
          refine lv_iload_n hx hb dX7_turns_97 rfl (lv_at hl 5 rfl) ?_
          refine lv_iconst (v := 3) hx hb dX7_turns_98 rfl ?_
          refine sc_R hf (rV_R (As := [.int x1, .int 3]) (rest := [.int y25]) E hU hB.1 sc9 (slt hsh hn 157 rfl) rfl (mX7_at l D G ad r _ n x hsh hn x1 3) (cwGV 2 okX7_at wmX7_105 hts rfl rfl ⟨Nat.le_of_ble_eq_true rfl, Nat.le_of_ble_eq_true rfl⟩) rfl hl.1 (Nat.le_of_ble_eq_true rfl) dX7_turns_99 ⟨Nat.zero_le _, Nat.zero_le _⟩ rfl) (fun y26 hf => ?_)
          refine lv_icmp_ge (tgt := 129) hx hb dX7_turns_102 rfl (fun hc => ?_) (fun hc => ?_)
          · have hf := ite_t hf hc
            refine lv_iconst (v := 0) hx hb dX7_turns_129 rfl ?_
            exact wX7_turns_130 E hlocks hrt hU hsh hn hB hf (lv_sub hl [4, 5, 3, 2, 1, 0] rfl)
          · have hf := ite_f hf hc
            refine lv_aload_n hx hb dX7_turns_105 rfl (lv_at hl 4 rfl) ?_
            refine s_getR (k := 11) (t := 166) E hU hB.1 sc9 (slt hsh hn 157 rfl) rfl inlX7 (Nat.le_of_ble_eq_true rfl) rfl rfl wkX7_35 (hsh.1 157 11 166 rfl) dX7_turns_106 ?_
            refine lv_iload hx hb dX7_turns_109 (lv_at hl 0 rfl) ?_
            refine s_zald E hU hB.1 (slt hsh hn 166 rfl) rfl dX7_turns_111 hf (fun y27 hf => ?_)
            refine lv_if_ne (tgt := 129) hx hb dX7_turns_112 rfl (fun hc => ?_) (fun hc => ?_)
            · have hf := ite_f hf hc
              refine lv_iconst (v := 0) hx hb dX7_turns_129 rfl ?_
              exact wX7_turns_130 E hlocks hrt hU hsh hn hB hf (lv_sub hl [4, 5, 3, 2, 1, 0] rfl)
            · have hf := ite_t hf hc
              refine lv_aload_n hx hb dX7_turns_115 rfl (lv_at hl 4 rfl) ?_
              refine s_getR (k := 12) (t := 167) E hU hB.1 sc9 (slt hsh hn 157 rfl) rfl inlX7 (Nat.le_of_ble_eq_true rfl) rfl rfl wkX7_38 (hsh.1 157 12 167 rfl) dX7_turns_116 ?_
              refine lv_iload hx hb dX7_turns_119 (lv_at hl 0 rfl) ?_
              refine s_zald E hU hB.1 (slt hsh hn 167 rfl) rfl dX7_turns_121 hf (fun y28 hf => ?_)
              refine lv_if_ne (tgt := 129) hx hb dX7_turns_122 rfl (fun hc => ?_) (fun hc => ?_)
              · have hf := ite_f hf hc
                refine lv_iconst (v := 0) hx hb dX7_turns_129 rfl ?_
                exact wX7_turns_130 E hlocks hrt hU hsh hn hB hf (lv_sub hl [4, 5, 3, 2, 1, 0] rfl)
              · have hf := ite_t hf hc
                refine lv_iconst (v := 1) hx hb dX7_turns_125 rfl ?_
                refine lv_goto (tgt := 130) hx hb dX7_turns_126 rfl ?_
                exact wX7_turns_130 E hlocks hrt hU hsh hn hB hf (lv_sub hl [4, 5, 3, 2, 1, 0] rfl)
      · have hf := ite_f hf hc
        refine lv_aload_n hx hb dX7_turns_48 rfl (lv_at hl 2 rfl) ?_
        refine lv_iload_n hx hb dX7_turns_49 rfl (lv_at hl 3 rfl) ?_
        refine sc_V hB (fun q h => Or.inr h) hf (fun q9 h9 => rV_W (As := [.int x1]) (rest := []) E hU hB sc9 (slt hsh hn 157 rfl) rfl ((mX7_waits l D G ad r _ n x hsh hn x1) _ _ h9) (cwGV 1 okX7_waits wmX7_153 hts rfl rfl ⟨Nat.le_of_ble_eq_true rfl, Nat.le_of_ble_eq_true rfl⟩) rfl hl.1 (Nat.le_of_ble_eq_true rfl) dX7_turns_50 ⟨Nat.zero_le _, Nat.zero_le _⟩ rfl) (fun v29 hf H locs hB => ?_)
        exact s_vretW E hrt hlocks hB hf dX7_turns_53
    · have hf := ite_f hf hc
      exact s_vretW E hrt hlocks hB hf dX7_turns_25
  · have hf := ite_f hf hc
    refine lv_aload_n hx hb dX7_turns_8 rfl (lv_at hl 0 rfl) ?_
    refine lv_iload_n hx hb dX7_turns_9 rfl (lv_at hl 1 rfl) ?_
    refine lv_iconst (v := 5) hx hb dX7_turns_10 rfl ?_
    refine lv_iconst (v := 0) hx hb dX7_turns_11 rfl ?_
    refine sc_V hB (fun q h => Or.inr h) hf (fun q9 h9 => rV_W (As := [.int x1, .int 5, .int 0]) (rest := []) E hU hB sc9 (slt hsh hn 157 rfl) rfl ((mX7_put l D G ad r _ n x hsh hn x1 5 0) _ _ h9) (cwGV 3 okX7_put wmX7_119 hts rfl rfl ⟨Nat.le_of_ble_eq_true rfl, Nat.le_of_ble_eq_true rfl⟩) rfl hl.1 (Nat.le_of_ble_eq_true rfl) dX7_turns_12 ⟨Nat.zero_le _, Nat.zero_le _⟩ rfl) (fun v30 hf H locs hB => ?_)
    exact s_vretW E hrt hlocks hB hf dX7_turns_15
abbrev rmX7_nextInTurn : Room := { frames := 2, cells := 0, slots := 0, locals := 43 }
set_option maxRecDepth 100000 in
set_option maxHeartbeats 4000000 in
theorem lX7_nextInTurn_4 {K : Nat} {res : Int32} (E : CallFix p m c cX7_nextInTurn 3 s args wsL_law RX7) (hlocks : meth.locks = false) (hrt : meth.sig.returnType = (some .int)) (hU : sU D G s) (hsh : sSh r) (hn : 172 ≤ n) {v : sV} (hP : va_P D vwCl (sWl G ad r v n x) s.heap) :
    ∀ (k : Nat) (x1 : Int32) (x2 : Int32) (ls : Array Slot), fx2 (gX7_nextInTurn_4 K v) k x1 x2 = some res → lv_has ls 3 [(0, .ref (ad 157)), (1, .int x1), (2, .int x2)] → W p l e rmX7_nextInTurn s m args below meth c s.heap [] 0 0 (MQ below (vp_Si (fun q => q = res)) args s 0 0 (fun _ => False)) (F0 m 4 ls []) := by
  have hx := E.1
  have hb := E.2.1
  have hts := E.2.2.2.2
  intro k
  induction k with
  | zero =>
    intro x1 x2 ls hf hl
    exact fx2_z hf
  | succ k ih =>
    intro x1 x2 ls hf hl
    have hf := (gX7_nextInTurn_4.eq_1 ..).symm.trans hf
    refine lv_iload_n hx hb dX7_nextInTurn_4 rfl (lv_at hl 2 rfl) ?_
    refine lv_bipush (v := 16) hx hb dX7_nextInTurn_5 rfl ?_
    refine lv_icmp_ge (tgt := 54) hx hb dX7_nextInTurn_7 rfl (fun hc => ?_) (fun hc => ?_)
    · have hf := ite_t hf hc
      refine lv_iload_n hx hb dX7_nextInTurn_54 rfl (lv_at hl 1 rfl) ?_
      exact s_iretR E hrt hlocks hf dX7_nextInTurn_55
    · have hf := ite_f hf hc
      refine lv_aload_n hx hb dX7_nextInTurn_10 rfl (lv_at hl 0 rfl) ?_
      refine lv_iload_n hx hb dX7_nextInTurn_11 rfl (lv_at hl 2 rfl) ?_
      refine sc_R hf (rV_R (As := [.int x2]) (rest := []) E hU hP sc9 (slt hsh hn 157 rfl) rfl (mX7_isAgent l D G ad r _ n x hsh hn x2) (cwGV 1 okX7_isAgent wmX7_102 hts rfl rfl ⟨Nat.le_of_ble_eq_true rfl, Nat.le_of_ble_eq_true rfl⟩) rfl hl.1 (Nat.le_of_ble_eq_true rfl) dX7_nextInTurn_12 ⟨Nat.zero_le _, Nat.zero_le _⟩ rfl) (fun y1 hf => ?_)
      refine lv_if_eq (tgt := 48) hx hb dX7_nextInTurn_15 rfl (fun hc => ?_) (fun hc => ?_)
      · have hf := ite_t hf hc
        obtain ⟨z2, ez9, hf⟩ := nm_x hf
        refine lv_iinc (v := z2) (lv' := [(2, .int z2), (0, .ref (ad 157)), (1, .int x1)]) hx hb dX7_nextInTurn_48 hl (k := 2) rfl (by rw [ez9]; rfl) (Nat.le_of_ble_eq_true rfl) rfl (fun ls hl => ?_)
        refine lv_goto (tgt := 4) hx hb dX7_nextInTurn_51 rfl ?_
        exact ih _ _ _ hf (lv_sub hl [1, 2, 0] rfl)
      · have hf := ite_f hf hc
        refine lv_aload_n hx hb dX7_nextInTurn_18 rfl (lv_at hl 0 rfl) ?_
        refine s_getR (k := 11) (t := 166) E hU hP sc9 (slt hsh hn 157 rfl) rfl inlX7 (Nat.le_of_ble_eq_true rfl) rfl rfl wkX7_35 (hsh.1 157 11 166 rfl) dX7_nextInTurn_19 ?_
        refine lv_iload_n hx hb dX7_nextInTurn_22 rfl (lv_at hl 2 rfl) ?_
        refine s_zald E hU hP (slt hsh hn 166 rfl) rfl dX7_nextInTurn_23 hf (fun y3 hf => ?_)
        refine lv_if_ne (tgt := 48) hx hb dX7_nextInTurn_24 rfl (fun hc => ?_) (fun hc => ?_)
        · have hf := ite_f hf hc
          obtain ⟨z4, ez9, hf⟩ := nm_x hf
          refine lv_iinc (v := z4) (lv' := [(2, .int z4), (0, .ref (ad 157)), (1, .int x1)]) hx hb dX7_nextInTurn_48 hl (k := 2) rfl (by rw [ez9]; rfl) (Nat.le_of_ble_eq_true rfl) rfl (fun ls hl => ?_)
          refine lv_goto (tgt := 4) hx hb dX7_nextInTurn_51 rfl ?_
          exact ih _ _ _ hf (lv_sub hl [1, 2, 0] rfl)
        · have hf := ite_t hf hc
          refine lv_iload_n hx hb dX7_nextInTurn_27 rfl (lv_at hl 1 rfl) ?_
          refine lv_if_lt (tgt := 46) hx hb dX7_nextInTurn_28 rfl (fun hc => ?_) (fun hc => ?_)
          · have hf := ite_t hf hc
            refine lv_iload_n hx hb dX7_nextInTurn_46 rfl (lv_at hl 2 rfl) ?_
            refine lv_istore_n (lv' := [(1, .int x2), (0, .ref (ad 157)), (2, .int x2)]) hx hb dX7_nextInTurn_47 rfl hl (Nat.le_of_ble_eq_true rfl) rfl (fun ls hl => ?_)
            obtain ⟨z5, ez9, hf⟩ := nm_x hf
            refine lv_iinc (v := z5) (lv' := [(2, .int z5), (1, .int x2), (0, .ref (ad 157))]) hx hb dX7_nextInTurn_48 hl (k := 2) rfl (by rw [ez9]; rfl) (Nat.le_of_ble_eq_true rfl) rfl (fun ls hl => ?_)
            refine lv_goto (tgt := 4) hx hb dX7_nextInTurn_51 rfl ?_
            exact ih _ _ _ hf (lv_sub hl [2, 1, 0] rfl)
          · have hf := ite_f hf hc
            refine lv_aload_n hx hb dX7_nextInTurn_31 rfl (lv_at hl 0 rfl) ?_
            refine lv_iload_n hx hb dX7_nextInTurn_32 rfl (lv_at hl 2 rfl) ?_
            refine lv_iconst (v := 3) hx hb dX7_nextInTurn_33 rfl ?_
            refine sc_R hf (rV_R (As := [.int x2, .int 3]) (rest := []) E hU hP sc9 (slt hsh hn 157 rfl) rfl (mX7_at l D G ad r _ n x hsh hn x2 3) (cwGV 2 okX7_at wmX7_105 hts rfl rfl ⟨Nat.le_of_ble_eq_true rfl, Nat.le_of_ble_eq_true rfl⟩) rfl hl.1 (Nat.le_of_ble_eq_true rfl) dX7_nextInTurn_34 ⟨Nat.zero_le _, Nat.zero_le _⟩ rfl) (fun y6 hf => ?_)
            refine lv_aload_n hx hb dX7_nextInTurn_37 rfl (lv_at hl 0 rfl) ?_
            refine lv_iload_n hx hb dX7_nextInTurn_38 rfl (lv_at hl 1 rfl) ?_
            refine lv_iconst (v := 3) hx hb dX7_nextInTurn_39 rfl ?_
            refine sc_R hf (rV_R (As := [.int x1, .int 3]) (rest := [.int y6]) E hU hP sc9 (slt hsh hn 157 rfl) rfl (mX7_at l D G ad r _ n x hsh hn x1 3) (cwGV 2 okX7_at wmX7_105 hts rfl rfl ⟨Nat.le_of_ble_eq_true rfl, Nat.le_of_ble_eq_true rfl⟩) rfl hl.1 (Nat.le_of_ble_eq_true rfl) dX7_nextInTurn_40 ⟨Nat.zero_le _, Nat.zero_le _⟩ rfl) (fun y7 hf => ?_)
            refine lv_icmp_le (tgt := 48) hx hb dX7_nextInTurn_43 rfl (fun hc => ?_) (fun hc => ?_)
            · have hf := ite_t hf hc
              obtain ⟨z8, ez9, hf⟩ := nm_x hf
              refine lv_iinc (v := z8) (lv' := [(2, .int z8), (0, .ref (ad 157)), (1, .int x1)]) hx hb dX7_nextInTurn_48 hl (k := 2) rfl (by rw [ez9]; rfl) (Nat.le_of_ble_eq_true rfl) rfl (fun ls hl => ?_)
              refine lv_goto (tgt := 4) hx hb dX7_nextInTurn_51 rfl ?_
              exact ih _ _ _ hf (lv_sub hl [1, 2, 0] rfl)
            · have hf := ite_f hf hc
              refine lv_iload_n hx hb dX7_nextInTurn_46 rfl (lv_at hl 2 rfl) ?_
              refine lv_istore_n (lv' := [(1, .int x2), (0, .ref (ad 157)), (2, .int x2)]) hx hb dX7_nextInTurn_47 rfl hl (Nat.le_of_ble_eq_true rfl) rfl (fun ls hl => ?_)
              obtain ⟨z9, ez9, hf⟩ := nm_x hf
              refine lv_iinc (v := z9) (lv' := [(2, .int z9), (1, .int x2), (0, .ref (ad 157))]) hx hb dX7_nextInTurn_48 hl (k := 2) rfl (by rw [ez9]; rfl) (Nat.le_of_ble_eq_true rfl) rfl (fun ls hl => ?_)
              refine lv_goto (tgt := 4) hx hb dX7_nextInTurn_51 rfl ?_
              exact ih _ _ _ hf (lv_sub hl [2, 1, 0] rfl)
set_option maxRecDepth 100000 in
set_option maxHeartbeats 4000000 in
theorem mX7_nextInTurn (l : Launch) (K : Nat) (D : va_G) (G : Nat → ClassId) (ad : Nat → Nat) (r : sR) (v : sV) (n : Nat) (x : Int64 × UInt64) (hsh : sSh r) (hn : 172 ≤ n) : sMR l yX7_nextInTurn (.code yX7_nextInTurn cX7_nextInTurn 3 (some .int) :: wsL_law) rmX7_nextInTurn D G ad r v n x [.ref (ad 157)] (fX7_nextInTurn K v) := by
  intro res hf
  refine Met.ofW (cc := cX7_nextInTurn) (maxL := 3) (ret := (some .int)) (by decide) rfl ?_
  intro p e s m args below meth c s₁ B hml hv
  obtain ⟨rfl, hU, hP⟩ := hv
  have hx := B.exec
  have hb := B.bytes
  have hrt := B.returns
  have hts : ∀ w ∈ wsL_law, w.before _ s = true := fun w hw => atoms_spec (ws := .code yX7_nextInTurn cX7_nextInTurn 3 (some .int) :: wsL_law) B.pre w (List.mem_cons_of_mem _ hw)
  have hlocks := B.notSynchronized
  have E : CallFix p m c cX7_nextInTurn 3 s ([.ref (ad 157)] : List Value).toArray wsL_law RX7 := ⟨hx, hb, hml, findClass_of_methodNamed B.named, hts⟩
  have hl := lv_entry ([.ref (ad 157)]) (n := 3) (Nat.le_of_ble_eq_true rfl)
  rw [lg_entry_eq]
  generalize (lg_sl ([.ref (ad 157)]) ++ List.replicate (3 - (lg_sl ([.ref (ad 157)])).length) Slot.unset).toArray = ls at hl ⊢
  have hl : lv_has ls 3 [(0, .ref (ad 157))] := hl
  have hf := (fX7_nextInTurn.eq_1 ..).symm.trans hf
  refine lv_iconst (v := (-1)) hx hb dX7_nextInTurn_0 rfl ?_
  refine lv_istore_n (lv' := [(1, .int (-1)), (0, .ref (ad 157))]) hx hb dX7_nextInTurn_1 rfl hl (Nat.le_of_ble_eq_true rfl) rfl (fun ls hl => ?_)
  refine lv_iconst (v := 0) hx hb dX7_nextInTurn_2 rfl ?_
  refine lv_istore_n (lv' := [(2, .int 0), (1, .int (-1)), (0, .ref (ad 157))]) hx hb dX7_nextInTurn_3 rfl hl (Nat.le_of_ble_eq_true rfl) rfl (fun ls hl => ?_)
  exact lX7_nextInTurn_4 E hlocks hrt hU hsh hn hP _ _ _ _ hf (lv_sub hl [2, 1, 0] rfl)
abbrev rmX7_ticks : Room := { frames := 8, cells := 0, slots := 0, locals := 192 }
set_option maxRecDepth 100000 in
set_option maxHeartbeats 4000000 in
theorem lX7_ticks_45 {K : Nat} {res : sV} (E : CallFix p m c cX7_ticks 2 s args wsL_law RX7) (hlocks : meth.locks = false) (hrt : meth.sig.returnType = none) (hU : sU D G s) (hsh : sSh r) (hn : 172 ≤ n) :
    ∀ (k : Nat) (x1 : Int32) (v : sV) (H : Heap) (locs : List Loc) (ls : Array Slot), fx2 (gX7_ticks_45 K) k x1 v = some res → sB D G (sA ad r n s.heap.size) s.heap ad r v n x H locs → lv_has ls 2 [(0, .ref (ad 157)), (1, .int x1)] → W p l e rmX7_ticks s m args below meth c H locs 0 0 (MQ below (sQV D G ad r n x s.heap.size res) args s 0 0 (sA ad r n s.heap.size)) (F0 m 45 ls []) := by
  have hx := E.1
  have hb := E.2.1
  have hts := E.2.2.2.2
  intro k
  induction k with
  | zero =>
    intro x1 v H locs ls hf hB hl
    exact fx2_z hf
  | succ k ih =>
    intro x1 v H locs ls hf hB hl
    have hf := (gX7_ticks_45.eq_1 ..).symm.trans hf
    refine lv_iload_n hx hb dX7_ticks_45 rfl (lv_at hl 1 rfl) ?_
    refine lv_if_lt (tgt := 69) hx hb dX7_ticks_46 rfl (fun hc => ?_) (fun hc => ?_)
    · have hf := ite_t hf hc
      exact s_vretW E hrt hlocks hB hf dX7_ticks_69
    · have hf := ite_f hf hc
      refine lv_aload_n hx hb dX7_ticks_49 rfl (lv_at hl 0 rfl) ?_
      refine s_getR (k := 11) (t := 166) E hU hB.1 sc9 (slt hsh hn 157 rfl) rfl inlX7 (Nat.le_of_ble_eq_true rfl) rfl rfl wkX7_35 (hsh.1 157 11 166 rfl) dX7_ticks_50 ?_
      refine lv_iload_n hx hb dX7_ticks_53 rfl (lv_at hl 1 rfl) ?_
      refine lv_iconst (v := 1) hx hb dX7_ticks_54 rfl ?_
      refine s_zast E hU hB (slt hsh hn 166 rfl) rfl rfl dX7_ticks_55 hf (fun v4 hf H locs hB => ?_)
      refine lv_aload_n hx hb dX7_ticks_56 rfl (lv_at hl 0 rfl) ?_
      refine lv_iload_n hx hb dX7_ticks_57 rfl (lv_at hl 1 rfl) ?_
      refine sc_V hB (fun q h => Or.inr h) hf (fun q9 h9 => rV_W (As := [.int x1]) (rest := []) E hU hB sc9 (slt hsh hn 157 rfl) rfl ((mX7_turns l K D G ad r _ n x hsh hn x1) _ _ h9) (cwGV 1 okX7_turns wmX7_168 hts rfl rfl ⟨Nat.le_of_ble_eq_true rfl, Nat.le_of_ble_eq_true rfl⟩) rfl hl.1 (Nat.le_of_ble_eq_true rfl) dX7_ticks_58 ⟨Nat.zero_le _, Nat.zero_le _⟩ rfl) (fun v5 hf H locs hB => ?_)
      refine lv_aload_n hx hb dX7_ticks_61 rfl (lv_at hl 0 rfl) ?_
      refine sc_R hf (rV_R (As := []) (rest := []) E hU hB.1 sc9 (slt hsh hn 157 rfl) rfl (mX7_nextInTurn l K D G ad r _ n x hsh hn) (cwGV 0 okX7_nextInTurn wmX7_165 hts rfl rfl ⟨Nat.le_of_ble_eq_true rfl, Nat.le_of_ble_eq_true rfl⟩) rfl hl.1 (Nat.le_of_ble_eq_true rfl) dX7_ticks_62 ⟨Nat.zero_le _, Nat.zero_le _⟩ rfl) (fun y6 hf => ?_)
      refine lv_istore_n (lv' := [(1, .int y6), (0, .ref (ad 157))]) hx hb dX7_ticks_65 rfl hl (Nat.le_of_ble_eq_true rfl) rfl (fun ls hl => ?_)
      refine lv_goto (tgt := 45) hx hb dX7_ticks_66 rfl ?_
      exact ih _ _ _ _ _ hf hB (lv_sub hl [1, 0] rfl)
set_option maxRecDepth 100000 in
set_option maxHeartbeats 4000000 in
theorem lX7_ticks_14 {K : Nat} {res : sV} (E : CallFix p m c cX7_ticks 2 s args wsL_law RX7) (hlocks : meth.locks = false) (hrt : meth.sig.returnType = none) (hU : sU D G s) (hsh : sSh r) (hn : 172 ≤ n) :
    ∀ (k : Nat) (x1 : Int32) (v : sV) (H : Heap) (locs : List Loc) (ls : Array Slot), fx2 (gX7_ticks_14 K) k x1 v = some res → sB D G (sA ad r n s.heap.size) s.heap ad r v n x H locs → lv_has ls 2 [(0, .ref (ad 157)), (1, .int x1)] → W p l e rmX7_ticks s m args below meth c H locs 0 0 (MQ below (sQV D G ad r n x s.heap.size res) args s 0 0 (sA ad r n s.heap.size)) (F0 m 14 ls []) := by
  have hx := E.1
  have hb := E.2.1
  have hts := E.2.2.2.2
  intro k
  induction k with
  | zero =>
    intro x1 v H locs ls hf hB hl
    exact fx2_z hf
  | succ k ih =>
    intro x1 v H locs ls hf hB hl
    have hf := (gX7_ticks_14.eq_1 ..).symm.trans hf
    refine lv_iload_n hx hb dX7_ticks_14 rfl (lv_at hl 1 rfl) ?_
    refine lv_bipush (v := 16) hx hb dX7_ticks_15 rfl ?_
    refine lv_icmp_ge (tgt := 40) hx hb dX7_ticks_17 rfl (fun hc => ?_) (fun hc => ?_)
    · have hf := ite_t hf hc
      refine lv_aload_n hx hb dX7_ticks_40 rfl (lv_at hl 0 rfl) ?_
      refine sc_R hf (rV_R (As := []) (rest := []) E hU hB.1 sc9 (slt hsh hn 157 rfl) rfl (mX7_nextInTurn l K D G ad r _ n x hsh hn) (cwGV 0 okX7_nextInTurn wmX7_165 hts rfl rfl ⟨Nat.le_of_ble_eq_true rfl, Nat.le_of_ble_eq_true rfl⟩) rfl hl.1 (Nat.le_of_ble_eq_true rfl) dX7_ticks_41 ⟨Nat.zero_le _, Nat.zero_le _⟩ rfl) (fun y3 hf => ?_)
      refine lv_istore_n (lv' := [(1, .int y3), (0, .ref (ad 157))]) hx hb dX7_ticks_44 rfl hl (Nat.le_of_ble_eq_true rfl) rfl (fun ls hl => ?_)
      exact lX7_ticks_45 E hlocks hrt hU hsh hn _ _ _ _ _ _ hf hB (lv_sub hl [1, 0] rfl)
    · have hf := ite_f hf hc
      refine lv_aload_n hx hb dX7_ticks_20 rfl (lv_at hl 0 rfl) ?_
      refine s_getR (k := 11) (t := 166) E hU hB.1 sc9 (slt hsh hn 157 rfl) rfl inlX7 (Nat.le_of_ble_eq_true rfl) rfl rfl wkX7_35 (hsh.1 157 11 166 rfl) dX7_ticks_21 ?_
      refine lv_iload_n hx hb dX7_ticks_24 rfl (lv_at hl 1 rfl) ?_
      refine lv_iconst (v := 0) hx hb dX7_ticks_25 rfl ?_
      refine s_zast E hU hB (slt hsh hn 166 rfl) rfl rfl dX7_ticks_26 hf (fun v7 hf H locs hB => ?_)
      refine lv_aload_n hx hb dX7_ticks_27 rfl (lv_at hl 0 rfl) ?_
      refine s_getR (k := 12) (t := 167) E hU hB.1 sc9 (slt hsh hn 157 rfl) rfl inlX7 (Nat.le_of_ble_eq_true rfl) rfl rfl wkX7_38 (hsh.1 157 12 167 rfl) dX7_ticks_28 ?_
      refine lv_iload_n hx hb dX7_ticks_31 rfl (lv_at hl 1 rfl) ?_
      refine lv_iconst (v := 0) hx hb dX7_ticks_32 rfl ?_
      refine s_zast E hU hB (slt hsh hn 167 rfl) rfl rfl dX7_ticks_33 hf (fun v8 hf H locs hB => ?_)
      obtain ⟨z9, ez9, hf⟩ := nm_x hf
      refine lv_iinc (v := z9) (lv' := [(1, .int z9), (0, .ref (ad 157))]) hx hb dX7_ticks_34 hl (k := 1) rfl (by rw [ez9]; rfl) (Nat.le_of_ble_eq_true rfl) rfl (fun ls hl => ?_)
      refine lv_goto (tgt := 14) hx hb dX7_ticks_37 rfl ?_
      exact ih _ _ _ _ _ hf hB (lv_sub hl [1, 0] rfl)
set_option maxRecDepth 100000 in
set_option maxHeartbeats 4000000 in
theorem mX7_ticks (l : Launch) (K : Nat) (D : va_G) (G : Nat → ClassId) (ad : Nat → Nat) (r : sR) (v : sV) (n : Nat) (x : Int64 × UInt64) (hsh : sSh r) (hn : 172 ≤ n) : sMV l yX7_ticks (.code yX7_ticks cX7_ticks 2 none :: wsL_law) rmX7_ticks D G ad r v n x [.ref (ad 157)] (fX7_ticks K v) := by
  intro sz res hf
  refine Met.ofW (cc := cX7_ticks) (maxL := 2) (ret := none) (by decide) rfl ?_
  intro p e s m args below meth c s₁ B hml hv
  obtain ⟨rfl, rfl, hU, hP, hD⟩ := hv
  have hx := B.exec
  have hb := B.bytes
  have hrt := B.returns
  have hts : ∀ w ∈ wsL_law, w.before _ s = true := fun w hw => atoms_spec (ws := .code yX7_ticks cX7_ticks 2 none :: wsL_law) B.pre w (List.mem_cons_of_mem _ hw)
  have hlocks := B.notSynchronized
  have E : CallFix p m c cX7_ticks 2 s ([.ref (ad 157)] : List Value).toArray wsL_law RX7 := ⟨hx, hb, hml, findClass_of_methodNamed B.named, hts⟩
  have hB : sB D G (sA ad r n s.heap.size) s.heap ad r v n x s.heap [] := ⟨hP, sD_self hD, va_S.rf⟩
  have hl := lv_entry ([.ref (ad 157)]) (n := 2) (Nat.le_of_ble_eq_true rfl)
  rw [lg_entry_eq]
  generalize (lg_sl ([.ref (ad 157)]) ++ List.replicate (2 - (lg_sl ([.ref (ad 157)])).length) Slot.unset).toArray = ls at hl ⊢
  have hl : lv_has ls 2 [(0, .ref (ad 157))] := hl
  have hf := (fX7_ticks.eq_1 ..).symm.trans hf
  refine lv_aload_n hx hb dX7_ticks_0 rfl (lv_at hl 0 rfl) ?_
  refine s_getR (k := 0) (t := 158) E hU hB.1 sc9 (slt hsh hn 157 rfl) rfl inlX7 (Nat.le_of_ble_eq_true rfl) rfl rfl wkX7_9 (hsh.1 157 0 158 rfl) dX7_ticks_1 ?_
  refine lv_sipush (v := 285) hx hb dX7_ticks_4 rfl ?_
  refine lv_dup2_11 hx hb dX7_ticks_7 rfl rfl ?_
  refine s_iald E hU hB.1 (slt hsh hn 158 rfl) rfl dX7_ticks_8 hf (fun y1 hf => ?_)
  refine lv_iconst (v := 1) hx hb dX7_ticks_9 rfl ?_
  refine lv_iadd hx hb dX7_ticks_10 ?_
  refine s_iast E hU hB (slt hsh hn 158 rfl) rfl dX7_ticks_11 hf (fun v2 hf H locs hB => ?_)
  refine lv_iconst (v := 0) hx hb dX7_ticks_12 rfl ?_
  refine lv_istore_n (lv' := [(1, .int 0), (0, .ref (ad 157))]) hx hb dX7_ticks_13 rfl hl (Nat.le_of_ble_eq_true rfl) rfl (fun ls hl => ?_)
  exact lX7_ticks_14 E hlocks hrt hU hsh hn _ _ _ _ _ _ hf hB (lv_sub hl [1, 0] rfl)
abbrev rmX7_tick : Room := { frames := 9, cells := 0, slots := 0, locals := 213 }
set_option maxRecDepth 100000 in
set_option maxHeartbeats 4000000 in
theorem lX7_tick_34 {K : Nat} {x1 : Int32} {res : (Int32 × sV)} (E : CallFix p m c cX7_tick 3 s args wsL_law RX7) (hlocks : meth.locks = false) (hrt : meth.sig.returnType = (some .int)) (hU : sU D G s) (hsh : sSh r) (hn : 172 ≤ n) :
    ∀ (k : Nat) (x2 : Int32) (v : sV) (H : Heap) (locs : List Loc) (ls : Array Slot), fx2 (gX7_tick_34 K x1) k x2 v = some res → sB D G (sA ad r n s.heap.size) s.heap ad r v n x H locs → lv_has ls 3 [(0, .ref (ad 157)), (1, .int x1), (2, .int x2)] → W p l e rmX7_tick s m args below meth c H locs 0 0 (MQ below (sQI D G ad r n x s.heap.size res) args s 0 0 (sA ad r n s.heap.size)) (F0 m 34 ls []) := by
  have hx := E.1
  have hb := E.2.1
  have hts := E.2.2.2.2
  intro k
  induction k with
  | zero =>
    intro x2 v H locs ls hf hB hl
    exact fx2_z hf
  | succ k ih =>
    intro x2 v H locs ls hf hB hl
    have hf := (gX7_tick_34.eq_1 ..).symm.trans hf
    refine lv_iload_n hx hb dX7_tick_34 rfl (lv_at hl 2 rfl) ?_
    refine lv_iload_n hx hb dX7_tick_35 rfl (lv_at hl 1 rfl) ?_
    refine lv_icmp_ge (tgt := 49) hx hb dX7_tick_36 rfl (fun hc => ?_) (fun hc => ?_)
    · have hf := ite_t hf hc
      refine lv_aload_n hx hb dX7_tick_49 rfl (lv_at hl 0 rfl) ?_
      refine s_getR (k := 0) (t := 158) E hU hB.1 sc9 (slt hsh hn 157 rfl) rfl inlX7 (Nat.le_of_ble_eq_true rfl) rfl rfl wkX7_9 (hsh.1 157 0 158 rfl) dX7_tick_50 ?_
      refine lv_sipush (v := 285) hx hb dX7_tick_53 rfl ?_
      refine s_iald E hU hB.1 (slt hsh hn 158 rfl) rfl dX7_tick_56 hf (fun y4 hf => ?_)
      exact s_iretW E hrt hlocks hB hf dX7_tick_57
    · have hf := ite_f hf hc
      refine lv_aload_n hx hb dX7_tick_39 rfl (lv_at hl 0 rfl) ?_
      refine sc_V hB (fun q h => Or.inr h) hf (fun q9 h9 => rV_W (As := []) (rest := []) E hU hB sc9 (slt hsh hn 157 rfl) rfl ((mX7_ticks l K D G ad r _ n x hsh hn) _ _ h9) (cwGV 0 okX7_ticks wmX7_171 hts rfl rfl ⟨Nat.le_of_ble_eq_true rfl, Nat.le_of_ble_eq_true rfl⟩) rfl hl.1 (Nat.le_of_ble_eq_true rfl) dX7_tick_40 ⟨Nat.zero_le _, Nat.zero_le _⟩ rfl) (fun v5 hf H locs hB => ?_)
      obtain ⟨z6, ez9, hf⟩ := nm_x hf
      refine lv_iinc (v := z6) (lv' := [(2, .int z6), (0, .ref (ad 157)), (1, .int x1)]) hx hb dX7_tick_43 hl (k := 2) rfl (by rw [ez9]; rfl) (Nat.le_of_ble_eq_true rfl) rfl (fun ls hl => ?_)
      refine lv_goto (tgt := 34) hx hb dX7_tick_46 rfl ?_
      exact ih _ _ _ _ _ hf hB (lv_sub hl [1, 2, 0] rfl)
set_option maxRecDepth 100000 in
set_option maxHeartbeats 4000000 in
theorem wX7_tick_16 {K : Nat} {x1 : Int32} {t1 : Int32} {res : (Int32 × sV)} (E : CallFix p m c cX7_tick 3 s args wsL_law RX7) (hlocks : meth.locks = false) (hrt : meth.sig.returnType = (some .int)) (hU : sU D G s) (hsh : sSh r) (hn : 172 ≤ n) {v : sV} {H : Heap} {locs : List Loc} (hB : sB D G (sA ad r n s.heap.size) s.heap ad r v n x H locs) {ls : Array Slot} (hf : bX7_tick_16 K x1 t1 v = some res) (hl : lv_has ls 3 [(0, .ref (ad 157)), (1, .int x1)]) :
    W p l e rmX7_tick s m args below meth c H locs 0 0 (MQ below (sQI D G ad r n x s.heap.size res) args s 0 0 (sA ad r n s.heap.size)) (F0 m 16 ls [.int t1, .ref (ad 157)]) := by
  have hx := E.1
  have hb := E.2.1
  have hts := E.2.2.2.2
  have hf := (bX7_tick_16.eq_1 ..).symm.trans hf
  refine s_putI (k := 6) (ty1 := .int) E hU hB sc9 (slt hsh hn 157 rfl) rfl inlX7 (Nat.le_of_ble_eq_true rfl) rfl rfl wkX7_47 rfl rfl rfl rfl dX7_tick_16 hf (fun v2 hf H locs hB => ?_)
  refine lv_aload_n hx hb dX7_tick_19 rfl (lv_at hl 0 rfl) ?_
  refine s_getI (k := 6) E hU hB.1 sc9 (slt hsh hn 157 rfl) rfl inlX7 (Nat.le_of_ble_eq_true rfl) rfl rfl wkX7_47 dX7_tick_20 ?_
  refine lv_if_eq (tgt := 28) hx hb dX7_tick_23 rfl (fun hc => ?_) (fun hc => ?_)
  · have hf := ite_t hf hc
    refine lv_aload_n hx hb dX7_tick_28 rfl (lv_at hl 0 rfl) ?_
    refine sc_V hB (fun q h => Or.inr h) hf (fun q9 h9 => rV_W (As := []) (rest := []) E hU hB sc9 (slt hsh hn 157 rfl) rfl ((mX7_keeps l K D G ad r _ n x hsh hn) _ _ h9) (cwGV 0 okX7_keeps wmX7_96 hts rfl rfl ⟨Nat.le_of_ble_eq_true rfl, Nat.le_of_ble_eq_true rfl⟩) rfl hl.1 (Nat.le_of_ble_eq_true rfl) dX7_tick_29 ⟨Nat.zero_le _, Nat.zero_le _⟩ rfl) (fun v3 hf H locs hB => ?_)
    refine lv_iconst (v := 0) hx hb dX7_tick_32 rfl ?_
    refine lv_istore_n (lv' := [(2, .int 0), (0, .ref (ad 157)), (1, .int x1)]) hx hb dX7_tick_33 rfl hl (Nat.le_of_ble_eq_true rfl) rfl (fun ls hl => ?_)
    exact lX7_tick_34 E hlocks hrt hU hsh hn _ _ _ _ _ _ hf hB (lv_sub hl [1, 2, 0] rfl)
  · have hf := ite_f hf hc
    refine lv_iconst (v := 0) hx hb dX7_tick_26 rfl ?_
    exact s_iretW E hrt hlocks hB hf dX7_tick_27
set_option maxRecDepth 100000 in
set_option maxHeartbeats 4000000 in
theorem mX7_tick (l : Launch) (K : Nat) (D : va_G) (G : Nat → ClassId) (ad : Nat → Nat) (r : sR) (v : sV) (n : Nat) (x : Int64 × UInt64) (hsh : sSh r) (hn : 172 ≤ n) (x1 : Int32) : sMI l yX7_tick (.code yX7_tick cX7_tick 3 (some .int) :: wsL_law) rmX7_tick D G ad r v n x [.ref (ad 157), .int x1] (fX7_tick K x1 v) := by
  intro sz res hf
  refine Met.ofW (cc := cX7_tick) (maxL := 3) (ret := (some .int)) (by decide) rfl ?_
  intro p e s m args below meth c s₁ B hml hv
  obtain ⟨rfl, rfl, hU, hP, hD⟩ := hv
  have hx := B.exec
  have hb := B.bytes
  have hrt := B.returns
  have hts : ∀ w ∈ wsL_law, w.before _ s = true := fun w hw => atoms_spec (ws := .code yX7_tick cX7_tick 3 (some .int) :: wsL_law) B.pre w (List.mem_cons_of_mem _ hw)
  have hlocks := B.notSynchronized
  have E : CallFix p m c cX7_tick 3 s ([.ref (ad 157), .int x1] : List Value).toArray wsL_law RX7 := ⟨hx, hb, hml, findClass_of_methodNamed B.named, hts⟩
  have hB : sB D G (sA ad r n s.heap.size) s.heap ad r v n x s.heap [] := ⟨hP, sD_self hD, va_S.rf⟩
  have hl := lv_entry ([.ref (ad 157), .int x1]) (n := 3) (Nat.le_of_ble_eq_true rfl)
  rw [lg_entry_eq]
  generalize (lg_sl ([.ref (ad 157), .int x1]) ++ List.replicate (3 - (lg_sl ([.ref (ad 157), .int x1])).length) Slot.unset).toArray = ls at hl ⊢
  have hl : lv_has ls 3 [(0, .ref (ad 157)), (1, .int x1)] := hl
  have hf := (fX7_tick.eq_1 ..).symm.trans hf
  refine lv_aload_n hx hb dX7_tick_0 rfl (lv_at hl 0 rfl) ?_
  refine lv_iload_n hx hb dX7_tick_1 rfl (lv_at hl 1 rfl) ?_
  refine lv_iconst (v := 1) hx hb dX7_tick_2 rfl ?_
  refine lv_bipush (v := 50) hx hb dX7_tick_3 rfl ?_
  refine sc_R hf (rS_S (As := [.int x1, .int 1, .int 50]) (rest := [.ref (ad 157)]) E (mX7_isIn l x1 1 50) (cwGS 3 okX7_isIn wmX7_51 hts rfl rfl ⟨Nat.le_of_ble_eq_true rfl, Nat.le_of_ble_eq_true rfl⟩) rfl hl.1 (Nat.le_of_ble_eq_true rfl) dX7_tick_5 ⟨Nat.zero_le _, Nat.zero_le _⟩ rfl) (fun y1 hf => ?_)
  refine lv_if_eq (tgt := 15) hx hb dX7_tick_8 rfl (fun hc => ?_) (fun hc => ?_)
  · have hf := ite_t hf hc
    refine lv_iconst (v := 1) hx hb dX7_tick_15 rfl ?_
    exact wX7_tick_16 E hlocks hrt hU hsh hn hB hf (lv_sub hl [0, 1] rfl)
  · have hf := ite_f hf hc
    refine lv_iconst (v := 0) hx hb dX7_tick_11 rfl ?_
    refine lv_goto (tgt := 16) hx hb dX7_tick_12 rfl ?_
    exact wX7_tick_16 E hlocks hrt hU hsh hn hB hf (lv_sub hl [0, 1] rfl)
abbrev rmX7_statistic : Room := { frames := 1, cells := 0, slots := 0, locals := 22 }
set_option maxRecDepth 100000 in
set_option maxHeartbeats 4000000 in
theorem wX7_statistic_15 {x1 : Int32} {t1 : Int32} {res : (Int32 × sV)} (E : CallFix p m c cX7_statistic 2 s args wsL_law RX7) (hlocks : meth.locks = false) (hrt : meth.sig.returnType = (some .int)) (hU : sU D G s) (hsh : sSh r) (hn : 172 ≤ n) {v : sV} {H : Heap} {locs : List Loc} (hB : sB D G (sA ad r n s.heap.size) s.heap ad r v n x H locs) {ls : Array Slot} (hf : bX7_statistic_15 x1 t1 v = some res) (hl : lv_has ls 2 [(0, .ref (ad 157)), (1, .int x1)]) :
    W p l e rmX7_statistic s m args below meth c H locs 0 0 (MQ below (sQI D G ad r n x s.heap.size res) args s 0 0 (sA ad r n s.heap.size)) (F0 m 15 ls [.int t1, .ref (ad 157)]) := by
  have hx := E.1
  have hb := E.2.1
  have hts := E.2.2.2.2
  have hf := (bX7_statistic_15.eq_1 ..).symm.trans hf
  refine s_putI (k := 6) (ty1 := .int) E hU hB sc9 (slt hsh hn 157 rfl) rfl inlX7 (Nat.le_of_ble_eq_true rfl) rfl rfl wkX7_47 rfl rfl rfl rfl dX7_statistic_15 hf (fun v2 hf H locs hB => ?_)
  refine lv_aload_n hx hb dX7_statistic_18 rfl (lv_at hl 0 rfl) ?_
  refine s_getI (k := 6) E hU hB.1 sc9 (slt hsh hn 157 rfl) rfl inlX7 (Nat.le_of_ble_eq_true rfl) rfl rfl wkX7_47 dX7_statistic_19 ?_
  refine lv_if_ne (tgt := 38) hx hb dX7_statistic_22 rfl (fun hc => ?_) (fun hc => ?_)
  · have hf := ite_f hf hc
    refine lv_iconst (v := 0) hx hb dX7_statistic_38 rfl ?_
    exact s_iretW E hrt hlocks hB hf dX7_statistic_39
  · have hf := ite_t hf hc
    refine lv_aload_n hx hb dX7_statistic_25 rfl (lv_at hl 0 rfl) ?_
    refine s_getR (k := 0) (t := 158) E hU hB.1 sc9 (slt hsh hn 157 rfl) rfl inlX7 (Nat.le_of_ble_eq_true rfl) rfl rfl wkX7_9 (hsh.1 157 0 158 rfl) dX7_statistic_26 ?_
    refine lv_sipush (v := 285) hx hb dX7_statistic_29 rfl ?_
    refine lv_iload_n hx hb dX7_statistic_32 rfl (lv_at hl 1 rfl) ?_
    refine lv_iadd hx hb dX7_statistic_33 ?_
    refine s_iald E hU hB.1 (slt hsh hn 158 rfl) rfl dX7_statistic_34 hf (fun y3 hf => ?_)
    refine lv_goto (tgt := 39) hx hb dX7_statistic_35 rfl ?_
    exact s_iretW E hrt hlocks hB hf dX7_statistic_39
set_option maxRecDepth 100000 in
set_option maxHeartbeats 4000000 in
theorem mX7_statistic (l : Launch) (D : va_G) (G : Nat → ClassId) (ad : Nat → Nat) (r : sR) (v : sV) (n : Nat) (x : Int64 × UInt64) (hsh : sSh r) (hn : 172 ≤ n) (x1 : Int32) : sMI l yX7_statistic (.code yX7_statistic cX7_statistic 2 (some .int) :: wsL_law) rmX7_statistic D G ad r v n x [.ref (ad 157), .int x1] (fX7_statistic x1 v) := by
  intro sz res hf
  refine Met.ofW (cc := cX7_statistic) (maxL := 2) (ret := (some .int)) (by decide) rfl ?_
  intro p e s m args below meth c s₁ B hml hv
  obtain ⟨rfl, rfl, hU, hP, hD⟩ := hv
  have hx := B.exec
  have hb := B.bytes
  have hrt := B.returns
  have hts : ∀ w ∈ wsL_law, w.before _ s = true := fun w hw => atoms_spec (ws := .code yX7_statistic cX7_statistic 2 (some .int) :: wsL_law) B.pre w (List.mem_cons_of_mem _ hw)
  have hlocks := B.notSynchronized
  have E : CallFix p m c cX7_statistic 2 s ([.ref (ad 157), .int x1] : List Value).toArray wsL_law RX7 := ⟨hx, hb, hml, findClass_of_methodNamed B.named, hts⟩
  have hB : sB D G (sA ad r n s.heap.size) s.heap ad r v n x s.heap [] := ⟨hP, sD_self hD, va_S.rf⟩
  have hl := lv_entry ([.ref (ad 157), .int x1]) (n := 2) (Nat.le_of_ble_eq_true rfl)
  rw [lg_entry_eq]
  generalize (lg_sl ([.ref (ad 157), .int x1]) ++ List.replicate (2 - (lg_sl ([.ref (ad 157), .int x1])).length) Slot.unset).toArray = ls at hl ⊢
  have hl : lv_has ls 2 [(0, .ref (ad 157)), (1, .int x1)] := hl
  have hf := (fX7_statistic.eq_1 ..).symm.trans hf
  refine lv_aload_n hx hb dX7_statistic_0 rfl (lv_at hl 0 rfl) ?_
  refine lv_iload_n hx hb dX7_statistic_1 rfl (lv_at hl 1 rfl) ?_
  refine lv_iconst (v := 0) hx hb dX7_statistic_2 rfl ?_
  refine lv_iconst (v := 4) hx hb dX7_statistic_3 rfl ?_
  refine sc_R hf (rS_S (As := [.int x1, .int 0, .int 4]) (rest := [.ref (ad 157)]) E (mX7_isIn l x1 0 4) (cwGS 3 okX7_isIn wmX7_51 hts rfl rfl ⟨Nat.le_of_ble_eq_true rfl, Nat.le_of_ble_eq_true rfl⟩) rfl hl.1 (Nat.le_of_ble_eq_true rfl) dX7_statistic_4 ⟨Nat.zero_le _, Nat.zero_le _⟩ rfl) (fun y1 hf => ?_)
  refine lv_if_eq (tgt := 14) hx hb dX7_statistic_7 rfl (fun hc => ?_) (fun hc => ?_)
  · have hf := ite_t hf hc
    refine lv_iconst (v := 1) hx hb dX7_statistic_14 rfl ?_
    exact wX7_statistic_15 E hlocks hrt hU hsh hn hB hf (lv_sub hl [0, 1] rfl)
  · have hf := ite_f hf hc
    refine lv_iconst (v := 0) hx hb dX7_statistic_10 rfl ?_
    refine lv_goto (tgt := 15) hx hb dX7_statistic_11 rfl ?_
    exact wX7_statistic_15 E hlocks hrt hU hsh hn hB hf (lv_sub hl [0, 1] rfl)
abbrev rmX7_forecast : Room := { frames := 9, cells := 0, slots := 0, locals := 213 }
set_option maxRecDepth 100000 in
set_option maxHeartbeats 4000000 in
theorem lX7_forecast_98 {K : Nat} {x2 : Int32} {res : (Int32 × sV)} (E : CallFix p m c cX7_forecast 4 s args wsL_law RX7) (hlocks : meth.locks = false) (hrt : meth.sig.returnType = (some .int)) (hU : sU D G s) (hsh : sSh r) (hn : 172 ≤ n) :
    ∀ (k : Nat) (x3 : Int32) (v : sV) (H : Heap) (locs : List Loc) (ls : Array Slot), fx2 (gX7_forecast_98 K x2) k x3 v = some res → sB D G (sA ad r n s.heap.size) s.heap ad r v n x H locs → lv_has ls 4 [(0, .ref (ad 157)), (2, .int x2), (3, .int x3)] → W p l e rmX7_forecast s m args below meth c H locs 0 0 (MQ below (sQI D G ad r n x s.heap.size res) args s 0 0 (sA ad r n s.heap.size)) (F0 m 98 ls []) := by
  have hx := E.1
  have hb := E.2.1
  have hts := E.2.2.2.2
  intro k
  induction k with
  | zero =>
    intro x3 v H locs ls hf hB hl
    exact fx2_z hf
  | succ k ih =>
    intro x3 v H locs ls hf hB hl
    have hf := (gX7_forecast_98.eq_1 ..).symm.trans hf
    refine lv_iload_n hx hb dX7_forecast_98 rfl (lv_at hl 2 rfl) ?_
    refine lv_sipush (v := 434) hx hb dX7_forecast_99 rfl ?_
    refine lv_icmp_ge (tgt := 123) hx hb dX7_forecast_102 rfl (fun hc => ?_) (fun hc => ?_)
    · have hf := ite_t hf hc
      refine lv_aload_n hx hb dX7_forecast_123 rfl (lv_at hl 0 rfl) ?_
      refine s_getI (k := 6) E hU hB.1 sc9 (slt hsh hn 157 rfl) rfl inlX7 (Nat.le_of_ble_eq_true rfl) rfl rfl wkX7_47 dX7_forecast_124 ?_
      refine lv_if_ne (tgt := 134) hx hb dX7_forecast_127 rfl (fun hc => ?_) (fun hc => ?_)
      · have hf := ite_f hf hc
        refine lv_iconst (v := 0) hx hb dX7_forecast_134 rfl ?_
        exact s_iretW E hrt hlocks hB hf dX7_forecast_135
      · have hf := ite_t hf hc
        refine lv_iload_n hx hb dX7_forecast_130 rfl (lv_at hl 1 rfl) ?_
        refine lv_goto (tgt := 135) hx hb dX7_forecast_131 rfl ?_
        exact s_iretW E hrt hlocks hB hf dX7_forecast_135
    · have hf := ite_f hf hc
      refine lv_aload_n hx hb dX7_forecast_105 rfl (lv_at hl 0 rfl) ?_
      refine s_getR (k := 0) (t := 158) E hU hB.1 sc9 (slt hsh hn 157 rfl) rfl inlX7 (Nat.le_of_ble_eq_true rfl) rfl rfl wkX7_9 (hsh.1 157 0 158 rfl) dX7_forecast_106 ?_
      refine lv_iload_n hx hb dX7_forecast_109 rfl (lv_at hl 2 rfl) ?_
      refine lv_aload_n hx hb dX7_forecast_110 rfl (lv_at hl 0 rfl) ?_
      refine s_getR (k := 2) (t := 160) E hU hB.1 sc9 (slt hsh hn 157 rfl) rfl inlX7 (Nat.le_of_ble_eq_true rfl) rfl rfl wkX7_16 (hsh.1 157 2 160 rfl) dX7_forecast_111 ?_
      refine lv_iload_n hx hb dX7_forecast_114 rfl (lv_at hl 2 rfl) ?_
      refine s_iald E hU hB.1 (slt hsh hn 160 rfl) rfl dX7_forecast_115 hf (fun y5 hf => ?_)
      refine s_iast E hU hB (slt hsh hn 158 rfl) rfl dX7_forecast_116 hf (fun v6 hf H locs hB => ?_)
      obtain ⟨z7, ez9, hf⟩ := nm_x hf
      refine lv_iinc (v := z7) (lv' := [(3, .int z7), (0, .ref (ad 157)), (2, .int x2)]) hx hb dX7_forecast_117 hl (k := 2) rfl (by rw [ez9]; rfl) (Nat.le_of_ble_eq_true rfl) rfl (fun ls hl => ?_)
      refine lv_goto (tgt := 98) hx hb dX7_forecast_120 rfl ?_
      exact ih _ _ _ _ _ hf hB (lv_sub hl [1, 2, 0] rfl)
set_option maxRecDepth 100000 in
set_option maxHeartbeats 4000000 in
theorem wX7_forecast_79 {K : Nat} {x1 : Int32} {x2 : Int32} {res : (Int32 × sV)} (E : CallFix p m c cX7_forecast 4 s args wsL_law RX7) (hlocks : meth.locks = false) (hrt : meth.sig.returnType = (some .int)) (hU : sU D G s) (hsh : sSh r) (hn : 172 ≤ n) {v : sV} {H : Heap} {locs : List Loc} (hB : sB D G (sA ad r n s.heap.size) s.heap ad r v n x H locs) {ls : Array Slot} (hf : bX7_forecast_79 K x1 x2 v = some res) (hl : lv_has ls 4 [(0, .ref (ad 157)), (1, .int x1), (2, .int x2)]) :
    W p l e rmX7_forecast s m args below meth c H locs 0 0 (MQ below (sQI D G ad r n x s.heap.size res) args s 0 0 (sA ad r n s.heap.size)) (F0 m 79 ls []) := by
  have hx := E.1
  have hb := E.2.1
  have hts := E.2.2.2.2
  have hf := (bX7_forecast_79.eq_1 ..).symm.trans hf
  refine lv_aload_n hx hb dX7_forecast_79 rfl (lv_at hl 0 rfl) ?_
  refine lv_aload_n hx hb dX7_forecast_80 rfl (lv_at hl 0 rfl) ?_
  refine lv_iload_n hx hb dX7_forecast_81 rfl (lv_at hl 1 rfl) ?_
  refine sc_R hf (rV_R (As := [.int x1]) (rest := [.ref (ad 157)]) E hU hB.1 sc9 (slt hsh hn 157 rfl) rfl (mX7_isSettled l D G ad r _ n x hsh hn x1) (cwGV 1 okX7_isSettled wmX7_129 hts rfl rfl ⟨Nat.le_of_ble_eq_true rfl, Nat.le_of_ble_eq_true rfl⟩) rfl hl.1 (Nat.le_of_ble_eq_true rfl) dX7_forecast_82 ⟨Nat.zero_le _, Nat.zero_le _⟩ rfl) (fun y3 hf => ?_)
  refine lv_if_eq (tgt := 92) hx hb dX7_forecast_85 rfl (fun hc => ?_) (fun hc => ?_)
  · have hf := ite_t hf hc
    refine lv_iconst (v := 2) hx hb dX7_forecast_92 rfl ?_
    refine s_putI (k := 6) (ty1 := .int) E hU hB sc9 (slt hsh hn 157 rfl) rfl inlX7 (Nat.le_of_ble_eq_true rfl) rfl rfl wkX7_47 rfl rfl rfl rfl dX7_forecast_93 hf (fun v4 hf H locs hB => ?_)
    refine lv_iconst (v := 0) hx hb dX7_forecast_96 rfl ?_
    refine lv_istore_n (lv' := [(3, .int 0), (0, .ref (ad 157)), (1, .int x1), (2, .int x2)]) hx hb dX7_forecast_97 rfl hl (Nat.le_of_ble_eq_true rfl) rfl (fun ls hl => ?_)
    exact lX7_forecast_98 E hlocks hrt hU hsh hn _ _ _ _ _ _ hf hB (lv_sub hl [1, 3, 0] rfl)
  · have hf := ite_f hf hc
    refine lv_iconst (v := 0) hx hb dX7_forecast_88 rfl ?_
    refine lv_goto (tgt := 93) hx hb dX7_forecast_89 rfl ?_
    refine s_putI (k := 6) (ty1 := .int) E hU hB sc9 (slt hsh hn 157 rfl) rfl inlX7 (Nat.le_of_ble_eq_true rfl) rfl rfl wkX7_47 rfl rfl rfl rfl dX7_forecast_93 hf (fun v8 hf H locs hB => ?_)
    refine lv_iconst (v := 0) hx hb dX7_forecast_96 rfl ?_
    refine lv_istore_n (lv' := [(3, .int 0), (0, .ref (ad 157)), (1, .int x1), (2, .int x2)]) hx hb dX7_forecast_97 rfl hl (Nat.le_of_ble_eq_true rfl) rfl (fun ls hl => ?_)
    exact lX7_forecast_98 E hlocks hrt hU hsh hn _ _ _ _ _ _ hf hB (lv_sub hl [1, 3, 0] rfl)
set_option maxRecDepth 100000 in
set_option maxHeartbeats 4000000 in
theorem lX7_forecast_55 {K : Nat} {x1 : Int32} {res : (Int32 × sV)} (E : CallFix p m c cX7_forecast 4 s args wsL_law RX7) (hlocks : meth.locks = false) (hrt : meth.sig.returnType = (some .int)) (hU : sU D G s) (hsh : sSh r) (hn : 172 ≤ n) :
    ∀ (k : Nat) (x2 : Int32) (v : sV) (H : Heap) (locs : List Loc) (ls : Array Slot), fx2 (gX7_forecast_55 K x1) k x2 v = some res → sB D G (sA ad r n s.heap.size) s.heap ad r v n x H locs → lv_has ls 4 [(0, .ref (ad 157)), (1, .int x1), (2, .int x2)] → W p l e rmX7_forecast s m args below meth c H locs 0 0 (MQ below (sQI D G ad r n x s.heap.size res) args s 0 0 (sA ad r n s.heap.size)) (F0 m 55 ls []) := by
  have hx := E.1
  have hb := E.2.1
  have hts := E.2.2.2.2
  intro k
  induction k with
  | zero =>
    intro x2 v H locs ls hf hB hl
    exact fx2_z hf
  | succ k ih =>
    intro x2 v H locs ls hf hB hl
    have hf := (gX7_forecast_55.eq_1 ..).symm.trans hf
    refine lv_iload_n hx hb dX7_forecast_55 rfl (lv_at hl 2 rfl) ?_
    refine lv_bipush (v := 100) hx hb dX7_forecast_56 rfl ?_
    refine lv_icmp_ge (tgt := 79) hx hb dX7_forecast_58 rfl (fun hc => ?_) (fun hc => ?_)
    · have hf := ite_t hf hc
      exact wX7_forecast_79 E hlocks hrt hU hsh hn hB hf (lv_sub hl [0, 1, 2] rfl)
    · have hf := ite_f hf hc
      refine lv_aload_n hx hb dX7_forecast_61 rfl (lv_at hl 0 rfl) ?_
      refine lv_iload_n hx hb dX7_forecast_62 rfl (lv_at hl 1 rfl) ?_
      refine sc_R hf (rV_R (As := [.int x1]) (rest := []) E hU hB.1 sc9 (slt hsh hn 157 rfl) rfl (mX7_isSettled l D G ad r _ n x hsh hn x1) (cwGV 1 okX7_isSettled wmX7_129 hts rfl rfl ⟨Nat.le_of_ble_eq_true rfl, Nat.le_of_ble_eq_true rfl⟩) rfl hl.1 (Nat.le_of_ble_eq_true rfl) dX7_forecast_63 ⟨Nat.zero_le _, Nat.zero_le _⟩ rfl) (fun y9 hf => ?_)
      refine lv_if_ne (tgt := 79) hx hb dX7_forecast_66 rfl (fun hc => ?_) (fun hc => ?_)
      · have hf := ite_f hf hc
        exact wX7_forecast_79 E hlocks hrt hU hsh hn hB hf (lv_sub hl [0, 1, 2] rfl)
      · have hf := ite_t hf hc
        refine lv_aload_n hx hb dX7_forecast_69 rfl (lv_at hl 0 rfl) ?_
        refine sc_V hB (fun q h => Or.inr h) hf (fun q9 h9 => rV_W (As := []) (rest := []) E hU hB sc9 (slt hsh hn 157 rfl) rfl ((mX7_ticks l K D G ad r _ n x hsh hn) _ _ h9) (cwGV 0 okX7_ticks wmX7_171 hts rfl rfl ⟨Nat.le_of_ble_eq_true rfl, Nat.le_of_ble_eq_true rfl⟩) rfl hl.1 (Nat.le_of_ble_eq_true rfl) dX7_forecast_70 ⟨Nat.zero_le _, Nat.zero_le _⟩ rfl) (fun v10 hf H locs hB => ?_)
        obtain ⟨z11, ez9, hf⟩ := nm_x hf
        refine lv_iinc (v := z11) (lv' := [(2, .int z11), (0, .ref (ad 157)), (1, .int x1)]) hx hb dX7_forecast_73 hl (k := 2) rfl (by rw [ez9]; rfl) (Nat.le_of_ble_eq_true rfl) rfl (fun ls hl => ?_)
        refine lv_goto (tgt := 55) hx hb dX7_forecast_76 rfl ?_
        exact ih _ _ _ _ _ hf hB (lv_sub hl [1, 2, 0] rfl)
set_option maxRecDepth 100000 in
set_option maxHeartbeats 4000000 in
theorem lX7_forecast_28 {K : Nat} {x1 : Int32} {res : (Int32 × sV)} (E : CallFix p m c cX7_forecast 4 s args wsL_law RX7) (hlocks : meth.locks = false) (hrt : meth.sig.returnType = (some .int)) (hU : sU D G s) (hsh : sSh r) (hn : 172 ≤ n) :
    ∀ (k : Nat) (x2 : Int32) (v : sV) (H : Heap) (locs : List Loc) (ls : Array Slot), fx2 (gX7_forecast_28 K x1) k x2 v = some res → sB D G (sA ad r n s.heap.size) s.heap ad r v n x H locs → lv_has ls 4 [(0, .ref (ad 157)), (1, .int x1), (2, .int x2)] → W p l e rmX7_forecast s m args below meth c H locs 0 0 (MQ below (sQI D G ad r n x s.heap.size res) args s 0 0 (sA ad r n s.heap.size)) (F0 m 28 ls []) := by
  have hx := E.1
  have hb := E.2.1
  have hts := E.2.2.2.2
  intro k
  induction k with
  | zero =>
    intro x2 v H locs ls hf hB hl
    exact fx2_z hf
  | succ k ih =>
    intro x2 v H locs ls hf hB hl
    have hf := (gX7_forecast_28.eq_1 ..).symm.trans hf
    refine lv_iload_n hx hb dX7_forecast_28 rfl (lv_at hl 2 rfl) ?_
    refine lv_sipush (v := 434) hx hb dX7_forecast_29 rfl ?_
    refine lv_icmp_ge (tgt := 53) hx hb dX7_forecast_32 rfl (fun hc => ?_) (fun hc => ?_)
    · have hf := ite_t hf hc
      refine lv_iconst (v := 0) hx hb dX7_forecast_53 rfl ?_
      refine lv_istore_n (lv' := [(2, .int 0), (0, .ref (ad 157)), (1, .int x1)]) hx hb dX7_forecast_54 rfl hl (Nat.le_of_ble_eq_true rfl) rfl (fun ls hl => ?_)
      exact lX7_forecast_55 E hlocks hrt hU hsh hn _ _ _ _ _ _ hf hB (lv_sub hl [1, 2, 0] rfl)
    · have hf := ite_f hf hc
      refine lv_aload_n hx hb dX7_forecast_35 rfl (lv_at hl 0 rfl) ?_
      refine s_getR (k := 2) (t := 160) E hU hB.1 sc9 (slt hsh hn 157 rfl) rfl inlX7 (Nat.le_of_ble_eq_true rfl) rfl rfl wkX7_16 (hsh.1 157 2 160 rfl) dX7_forecast_36 ?_
      refine lv_iload_n hx hb dX7_forecast_39 rfl (lv_at hl 2 rfl) ?_
      refine lv_aload_n hx hb dX7_forecast_40 rfl (lv_at hl 0 rfl) ?_
      refine s_getR (k := 0) (t := 158) E hU hB.1 sc9 (slt hsh hn 157 rfl) rfl inlX7 (Nat.le_of_ble_eq_true rfl) rfl rfl wkX7_9 (hsh.1 157 0 158 rfl) dX7_forecast_41 ?_
      refine lv_iload_n hx hb dX7_forecast_44 rfl (lv_at hl 2 rfl) ?_
      refine s_iald E hU hB.1 (slt hsh hn 158 rfl) rfl dX7_forecast_45 hf (fun y12 hf => ?_)
      refine s_iast E hU hB (slt hsh hn 160 rfl) rfl dX7_forecast_46 hf (fun v13 hf H locs hB => ?_)
      obtain ⟨z14, ez9, hf⟩ := nm_x hf
      refine lv_iinc (v := z14) (lv' := [(2, .int z14), (0, .ref (ad 157)), (1, .int x1)]) hx hb dX7_forecast_47 hl (k := 2) rfl (by rw [ez9]; rfl) (Nat.le_of_ble_eq_true rfl) rfl (fun ls hl => ?_)
      refine lv_goto (tgt := 28) hx hb dX7_forecast_50 rfl ?_
      exact ih _ _ _ _ _ hf hB (lv_sub hl [1, 2, 0] rfl)
set_option maxRecDepth 100000 in
set_option maxHeartbeats 4000000 in
theorem wX7_forecast_14 {K : Nat} {x1 : Int32} {t1 : Int32} {res : (Int32 × sV)} (E : CallFix p m c cX7_forecast 4 s args wsL_law RX7) (hlocks : meth.locks = false) (hrt : meth.sig.returnType = (some .int)) (hU : sU D G s) (hsh : sSh r) (hn : 172 ≤ n) {v : sV} {H : Heap} {locs : List Loc} (hB : sB D G (sA ad r n s.heap.size) s.heap ad r v n x H locs) {ls : Array Slot} (hf : bX7_forecast_14 K x1 t1 v = some res) (hl : lv_has ls 4 [(0, .ref (ad 157)), (1, .int x1)]) :
    W p l e rmX7_forecast s m args below meth c H locs 0 0 (MQ below (sQI D G ad r n x s.heap.size res) args s 0 0 (sA ad r n s.heap.size)) (F0 m 14 ls [.int t1, .ref (ad 157)]) := by
  have hx := E.1
  have hb := E.2.1
  have hts := E.2.2.2.2
  have hf := (bX7_forecast_14.eq_1 ..).symm.trans hf
  refine s_putI (k := 6) (ty1 := .int) E hU hB sc9 (slt hsh hn 157 rfl) rfl inlX7 (Nat.le_of_ble_eq_true rfl) rfl rfl wkX7_47 rfl rfl rfl rfl dX7_forecast_14 hf (fun v2 hf H locs hB => ?_)
  refine lv_aload_n hx hb dX7_forecast_17 rfl (lv_at hl 0 rfl) ?_
  refine s_getI (k := 6) E hU hB.1 sc9 (slt hsh hn 157 rfl) rfl inlX7 (Nat.le_of_ble_eq_true rfl) rfl rfl wkX7_47 dX7_forecast_18 ?_
  refine lv_if_eq (tgt := 26) hx hb dX7_forecast_21 rfl (fun hc => ?_) (fun hc => ?_)
  · have hf := ite_t hf hc
    refine lv_iconst (v := 0) hx hb dX7_forecast_26 rfl ?_
    refine lv_istore_n (lv' := [(2, .int 0), (0, .ref (ad 157)), (1, .int x1)]) hx hb dX7_forecast_27 rfl hl (Nat.le_of_ble_eq_true rfl) rfl (fun ls hl => ?_)
    exact lX7_forecast_28 E hlocks hrt hU hsh hn _ _ _ _ _ _ hf hB (lv_sub hl [1, 2, 0] rfl)
  · have hf := ite_f hf hc
    refine lv_iconst (v := 0) hx hb dX7_forecast_24 rfl ?_
    exact s_iretW E hrt hlocks hB hf dX7_forecast_25
set_option maxRecDepth 100000 in
set_option maxHeartbeats 4000000 in
theorem mX7_forecast (l : Launch) (K : Nat) (D : va_G) (G : Nat → ClassId) (ad : Nat → Nat) (r : sR) (v : sV) (n : Nat) (x : Int64 × UInt64) (hsh : sSh r) (hn : 172 ≤ n) (x1 : Int32) : sMI l yX7_forecast (.code yX7_forecast cX7_forecast 4 (some .int) :: wsL_law) rmX7_forecast D G ad r v n x [.ref (ad 157), .int x1] (fX7_forecast K x1 v) := by
  intro sz res hf
  refine Met.ofW (cc := cX7_forecast) (maxL := 4) (ret := (some .int)) (by decide) rfl ?_
  intro p e s m args below meth c s₁ B hml hv
  obtain ⟨rfl, rfl, hU, hP, hD⟩ := hv
  have hx := B.exec
  have hb := B.bytes
  have hrt := B.returns
  have hts : ∀ w ∈ wsL_law, w.before _ s = true := fun w hw => atoms_spec (ws := .code yX7_forecast cX7_forecast 4 (some .int) :: wsL_law) B.pre w (List.mem_cons_of_mem _ hw)
  have hlocks := B.notSynchronized
  have E : CallFix p m c cX7_forecast 4 s ([.ref (ad 157), .int x1] : List Value).toArray wsL_law RX7 := ⟨hx, hb, hml, findClass_of_methodNamed B.named, hts⟩
  have hB : sB D G (sA ad r n s.heap.size) s.heap ad r v n x s.heap [] := ⟨hP, sD_self hD, va_S.rf⟩
  have hl := lv_entry ([.ref (ad 157), .int x1]) (n := 4) (Nat.le_of_ble_eq_true rfl)
  rw [lg_entry_eq]
  generalize (lg_sl ([.ref (ad 157), .int x1]) ++ List.replicate (4 - (lg_sl ([.ref (ad 157), .int x1])).length) Slot.unset).toArray = ls at hl ⊢
  have hl : lv_has ls 4 [(0, .ref (ad 157)), (1, .int x1)] := hl
  have hf := (fX7_forecast.eq_1 ..).symm.trans hf
  refine lv_aload_n hx hb dX7_forecast_0 rfl (lv_at hl 0 rfl) ?_
  refine lv_aload_n hx hb dX7_forecast_1 rfl (lv_at hl 0 rfl) ?_
  refine lv_iload_n hx hb dX7_forecast_2 rfl (lv_at hl 1 rfl) ?_
  refine sc_R hf (rV_R (As := [.int x1]) (rest := [.ref (ad 157)]) E hU hB.1 sc9 (slt hsh hn 157 rfl) rfl (mX7_isAgent l D G ad r _ n x hsh hn x1) (cwGV 1 okX7_isAgent wmX7_102 hts rfl rfl ⟨Nat.le_of_ble_eq_true rfl, Nat.le_of_ble_eq_true rfl⟩) rfl hl.1 (Nat.le_of_ble_eq_true rfl) dX7_forecast_3 ⟨Nat.zero_le _, Nat.zero_le _⟩ rfl) (fun y1 hf => ?_)
  refine lv_if_eq (tgt := 13) hx hb dX7_forecast_6 rfl (fun hc => ?_) (fun hc => ?_)
  · have hf := ite_t hf hc
    refine lv_iconst (v := 1) hx hb dX7_forecast_13 rfl ?_
    exact wX7_forecast_14 E hlocks hrt hU hsh hn hB hf (lv_sub hl [0, 1] rfl)
  · have hf := ite_f hf hc
    refine lv_iconst (v := 0) hx hb dX7_forecast_9 rfl ?_
    refine lv_goto (tgt := 14) hx hb dX7_forecast_10 rfl ?_
    exact wX7_forecast_14 E hlocks hrt hU hsh hn hB hf (lv_sub hl [0, 1] rfl)
abbrev rmX7_bottleneck : Room := { frames := 1, cells := 0, slots := 0, locals := 20 }
set_option maxRecDepth 100000 in
set_option maxHeartbeats 4000000 in
theorem wX7_bottleneck_65 {K : Nat} {x1 : Int32} {t1 : Int32} {res : (Int32 × sV)} (E : CallFix p m c cX7_bottleneck 3 s args wsL_law RX7) (hlocks : meth.locks = false) (hrt : meth.sig.returnType = (some .int)) (hU : sU D G s) (hsh : sSh r) (hn : 172 ≤ n) {v : sV} {H : Heap} {locs : List Loc} (hB : sB D G (sA ad r n s.heap.size) s.heap ad r v n x H locs) {ls : Array Slot} (hf : bX7_bottleneck_65 K x1 t1 v = some res) (hl : lv_has ls 3 [(0, .ref (ad 157)), (1, .int x1)]) :
    W p l e rmX7_bottleneck s m args below meth c H locs 0 0 (MQ below (sQI D G ad r n x s.heap.size res) args s 0 0 (sA ad r n s.heap.size)) (F0 m 65 ls [.int t1, .ref (ad 157)]) := by
  have hx := E.1
  have hb := E.2.1
  have hts := E.2.2.2.2
  have hf := (bX7_bottleneck_65.eq_1 ..).symm.trans hf
  refine s_putI (k := 6) (ty1 := .int) E hU hB sc9 (slt hsh hn 157 rfl) rfl inlX7 (Nat.le_of_ble_eq_true rfl) rfl rfl wkX7_47 rfl rfl rfl rfl dX7_bottleneck_65 hf (fun v2 hf H locs hB => ?_)
  refine lv_aload_n hx hb dX7_bottleneck_68 rfl (lv_at hl 0 rfl) ?_
  refine s_getI (k := 6) E hU hB.1 sc9 (slt hsh hn 157 rfl) rfl inlX7 (Nat.le_of_ble_eq_true rfl) rfl rfl wkX7_47 dX7_bottleneck_69 ?_
  refine lv_if_ne (tgt := 90) hx hb dX7_bottleneck_72 rfl (fun hc => ?_) (fun hc => ?_)
  · have hf := ite_f hf hc
    refine lv_iconst (v := 0) hx hb dX7_bottleneck_90 rfl ?_
    exact s_iretW E hrt hlocks hB hf dX7_bottleneck_91
  · have hf := ite_t hf hc
    refine lv_bipush (v := 100) hx hb dX7_bottleneck_75 rfl ?_
    refine lv_iload_n hx hb dX7_bottleneck_77 rfl (lv_at hl 1 rfl) ?_
    refine sc_R hf (rS_S (As := [.int x1]) (rest := [.int 100]) E (mX7_rowOf l x1) (cwGS 1 okX7_rowOf wmX7_59 hts rfl rfl ⟨Nat.le_of_ble_eq_true rfl, Nat.le_of_ble_eq_true rfl⟩) rfl hl.1 (Nat.le_of_ble_eq_true rfl) dX7_bottleneck_78 ⟨Nat.zero_le _, Nat.zero_le _⟩ rfl) (fun y3 hf => ?_)
    refine lv_imul hx hb dX7_bottleneck_81 ?_
    refine lv_iload_n hx hb dX7_bottleneck_82 rfl (lv_at hl 1 rfl) ?_
    refine sc_R hf (rS_S (As := [.int x1]) (rest := [.int (100 * y3)]) E (mX7_columnOf l x1) (cwGS 1 okX7_columnOf wmX7_55 hts rfl rfl ⟨Nat.le_of_ble_eq_true rfl, Nat.le_of_ble_eq_true rfl⟩) rfl hl.1 (Nat.le_of_ble_eq_true rfl) dX7_bottleneck_83 ⟨Nat.zero_le _, Nat.zero_le _⟩ rfl) (fun y4 hf => ?_)
    refine lv_iadd hx hb dX7_bottleneck_86 ?_
    refine lv_goto (tgt := 91) hx hb dX7_bottleneck_87 rfl ?_
    exact s_iretW E hrt hlocks hB hf dX7_bottleneck_91
set_option maxRecDepth 100000 in
set_option maxHeartbeats 4000000 in
theorem lX7_bottleneck_4 {K : Nat} {res : (Int32 × sV)} (E : CallFix p m c cX7_bottleneck 3 s args wsL_law RX7) (hlocks : meth.locks = false) (hrt : meth.sig.returnType = (some .int)) (hU : sU D G s) (hsh : sSh r) (hn : 172 ≤ n) {v : sV} {H : Heap} {locs : List Loc} (hB : sB D G (sA ad r n s.heap.size) s.heap ad r v n x H locs) :
    ∀ (k : Nat) (x1 : Int32) (x2 : Int32) (ls : Array Slot), fx2 (gX7_bottleneck_4 K v) k x1 x2 = some res → lv_has ls 3 [(0, .ref (ad 157)), (1, .int x1), (2, .int x2)] → W p l e rmX7_bottleneck s m args below meth c H locs 0 0 (MQ below (sQI D G ad r n x s.heap.size res) args s 0 0 (sA ad r n s.heap.size)) (F0 m 4 ls []) := by
  have hx := E.1
  have hb := E.2.1
  have hts := E.2.2.2.2
  intro k
  induction k with
  | zero =>
    intro x1 x2 ls hf hl
    exact fx2_z hf
  | succ k ih =>
    intro x1 x2 ls hf hl
    have hf := (gX7_bottleneck_4.eq_1 ..).symm.trans hf
    refine lv_iload_n hx hb dX7_bottleneck_4 rfl (lv_at hl 2 rfl) ?_
    refine lv_sipush (v := 140) hx hb dX7_bottleneck_5 rfl ?_
    refine lv_icmp_ge (tgt := 46) hx hb dX7_bottleneck_8 rfl (fun hc => ?_) (fun hc => ?_)
    · have hf := ite_t hf hc
      refine lv_aload_n hx hb dX7_bottleneck_46 rfl (lv_at hl 0 rfl) ?_
      refine lv_aload_n hx hb dX7_bottleneck_47 rfl (lv_at hl 0 rfl) ?_
      refine s_getR (k := 0) (t := 158) E hU hB.1 sc9 (slt hsh hn 157 rfl) rfl inlX7 (Nat.le_of_ble_eq_true rfl) rfl rfl wkX7_9 (hsh.1 157 0 158 rfl) dX7_bottleneck_48 ?_
      refine lv_sipush (v := 140) hx hb dX7_bottleneck_51 rfl ?_
      refine lv_iload_n hx hb dX7_bottleneck_54 rfl (lv_at hl 1 rfl) ?_
      refine lv_iadd hx hb dX7_bottleneck_55 ?_
      refine s_iald E hU hB.1 (slt hsh hn 158 rfl) rfl dX7_bottleneck_56 hf (fun y1 hf => ?_)
      refine lv_if_ne (tgt := 64) hx hb dX7_bottleneck_57 rfl (fun hc => ?_) (fun hc => ?_)
      · have hf := ite_f hf hc
        refine lv_iconst (v := 0) hx hb dX7_bottleneck_64 rfl ?_
        exact wX7_bottleneck_65 E hlocks hrt hU hsh hn hB hf (lv_sub hl [0, 1] rfl)
      · have hf := ite_t hf hc
        refine lv_iconst (v := 1) hx hb dX7_bottleneck_60 rfl ?_
        refine lv_goto (tgt := 65) hx hb dX7_bottleneck_61 rfl ?_
        exact wX7_bottleneck_65 E hlocks hrt hU hsh hn hB hf (lv_sub hl [0, 1] rfl)
    · have hf := ite_f hf hc
      refine lv_aload_n hx hb dX7_bottleneck_11 rfl (lv_at hl 0 rfl) ?_
      refine s_getR (k := 0) (t := 158) E hU hB.1 sc9 (slt hsh hn 157 rfl) rfl inlX7 (Nat.le_of_ble_eq_true rfl) rfl rfl wkX7_9 (hsh.1 157 0 158 rfl) dX7_bottleneck_12 ?_
      refine lv_sipush (v := 140) hx hb dX7_bottleneck_15 rfl ?_
      refine lv_iload_n hx hb dX7_bottleneck_18 rfl (lv_at hl 2 rfl) ?_
      refine lv_iadd hx hb dX7_bottleneck_19 ?_
      refine s_iald E hU hB.1 (slt hsh hn 158 rfl) rfl dX7_bottleneck_20 hf (fun y5 hf => ?_)
      refine lv_aload_n hx hb dX7_bottleneck_21 rfl (lv_at hl 0 rfl) ?_
      refine s_getR (k := 0) (t := 158) E hU hB.1 sc9 (slt hsh hn 157 rfl) rfl inlX7 (Nat.le_of_ble_eq_true rfl) rfl rfl wkX7_9 (hsh.1 157 0 158 rfl) dX7_bottleneck_22 ?_
      refine lv_sipush (v := 140) hx hb dX7_bottleneck_25 rfl ?_
      refine lv_iload_n hx hb dX7_bottleneck_28 rfl (lv_at hl 1 rfl) ?_
      refine lv_iadd hx hb dX7_bottleneck_29 ?_
      refine s_iald E hU hB.1 (slt hsh hn 158 rfl) rfl dX7_bottleneck_30 hf (fun y6 hf => ?_)
      refine lv_icmp_le (tgt := 38) hx hb dX7_bottleneck_31 rfl (fun hc => ?_) (fun hc => ?_)
      · have hf := ite_t hf hc
        refine lv_iload_n hx hb dX7_bottleneck_38 rfl (lv_at hl 1 rfl) ?_
        refine lv_istore_n (lv' := [(1, .int x1), (0, .ref (ad 157)), (2, .int x2)]) hx hb dX7_bottleneck_39 rfl hl (Nat.le_of_ble_eq_true rfl) rfl (fun ls hl => ?_)
        obtain ⟨z7, ez9, hf⟩ := nm_x hf
        refine lv_iinc (v := z7) (lv' := [(2, .int z7), (1, .int x1), (0, .ref (ad 157))]) hx hb dX7_bottleneck_40 hl (k := 2) rfl (by rw [ez9]; rfl) (Nat.le_of_ble_eq_true rfl) rfl (fun ls hl => ?_)
        refine lv_goto (tgt := 4) hx hb dX7_bottleneck_43 rfl ?_
        exact ih _ _ _ hf (lv_sub hl [2, 1, 0] rfl)
      · have hf := ite_f hf hc
        refine lv_iload_n hx hb dX7_bottleneck_34 rfl (lv_at hl 2 rfl) ?_
        refine lv_goto (tgt := 39) hx hb dX7_bottleneck_35 rfl ?_
        refine lv_istore_n (lv' := [(1, .int x2), (0, .ref (ad 157)), (2, .int x2)]) hx hb dX7_bottleneck_39 rfl hl (Nat.le_of_ble_eq_true rfl) rfl (fun ls hl => ?_)
        obtain ⟨z8, ez9, hf⟩ := nm_x hf
        refine lv_iinc (v := z8) (lv' := [(2, .int z8), (1, .int x2), (0, .ref (ad 157))]) hx hb dX7_bottleneck_40 hl (k := 2) rfl (by rw [ez9]; rfl) (Nat.le_of_ble_eq_true rfl) rfl (fun ls hl => ?_)
        refine lv_goto (tgt := 4) hx hb dX7_bottleneck_43 rfl ?_
        exact ih _ _ _ hf (lv_sub hl [2, 1, 0] rfl)
set_option maxRecDepth 100000 in
set_option maxHeartbeats 4000000 in
theorem mX7_bottleneck (l : Launch) (K : Nat) (D : va_G) (G : Nat → ClassId) (ad : Nat → Nat) (r : sR) (v : sV) (n : Nat) (x : Int64 × UInt64) (hsh : sSh r) (hn : 172 ≤ n) : sMI l yX7_bottleneck (.code yX7_bottleneck cX7_bottleneck 3 (some .int) :: wsL_law) rmX7_bottleneck D G ad r v n x [.ref (ad 157)] (fX7_bottleneck K v) := by
  intro sz res hf
  refine Met.ofW (cc := cX7_bottleneck) (maxL := 3) (ret := (some .int)) (by decide) rfl ?_
  intro p e s m args below meth c s₁ B hml hv
  obtain ⟨rfl, rfl, hU, hP, hD⟩ := hv
  have hx := B.exec
  have hb := B.bytes
  have hrt := B.returns
  have hts : ∀ w ∈ wsL_law, w.before _ s = true := fun w hw => atoms_spec (ws := .code yX7_bottleneck cX7_bottleneck 3 (some .int) :: wsL_law) B.pre w (List.mem_cons_of_mem _ hw)
  have hlocks := B.notSynchronized
  have E : CallFix p m c cX7_bottleneck 3 s ([.ref (ad 157)] : List Value).toArray wsL_law RX7 := ⟨hx, hb, hml, findClass_of_methodNamed B.named, hts⟩
  have hB : sB D G (sA ad r n s.heap.size) s.heap ad r v n x s.heap [] := ⟨hP, sD_self hD, va_S.rf⟩
  have hl := lv_entry ([.ref (ad 157)]) (n := 3) (Nat.le_of_ble_eq_true rfl)
  rw [lg_entry_eq]
  generalize (lg_sl ([.ref (ad 157)]) ++ List.replicate (3 - (lg_sl ([.ref (ad 157)])).length) Slot.unset).toArray = ls at hl ⊢
  have hl : lv_has ls 3 [(0, .ref (ad 157))] := hl
  have hf := (fX7_bottleneck.eq_1 ..).symm.trans hf
  refine lv_iconst (v := 0) hx hb dX7_bottleneck_0 rfl ?_
  refine lv_istore_n (lv' := [(1, .int 0), (0, .ref (ad 157))]) hx hb dX7_bottleneck_1 rfl hl (Nat.le_of_ble_eq_true rfl) rfl (fun ls hl => ?_)
  refine lv_iconst (v := 1) hx hb dX7_bottleneck_2 rfl ?_
  refine lv_istore_n (lv' := [(2, .int 1), (1, .int 0), (0, .ref (ad 157))]) hx hb dX7_bottleneck_3 rfl hl (Nat.le_of_ble_eq_true rfl) rfl (fun ls hl => ?_)
  exact lX7_bottleneck_4 E hlocks hrt hU hsh hn hB _ _ _ _ hf (lv_sub hl [2, 1, 0] rfl)
abbrev rmX7_bits : Room := { frames := 0, cells := 0, slots := 0, locals := 0 }
set_option maxRecDepth 100000 in
set_option maxHeartbeats 4000000 in
theorem lX7_bits_4 {K : Nat} {res : Int32} (E : CallFix p m c cX7_bits 3 s args wsL_law RX7) (hlocks : meth.locks = false) (hrt : meth.sig.returnType = (some .int)) :
    ∀ (k : Nat) (x1 : Int32) (x2 : Int32) (ls : Array Slot), fx2 (gX7_bits_4 K) k x1 x2 = some res → lv_has ls 3 [(1, .int x1), (2, .int x2)] → W p l e rmX7_bits s m args below meth c s.heap [] 0 0 (MQ below (vp_Si (fun q => q = res)) args s 0 0 (fun _ => False)) (F0 m 4 ls []) := by
  have hx := E.1
  have hb := E.2.1
  have hts := E.2.2.2.2
  intro k
  induction k with
  | zero =>
    intro x1 x2 ls hf hl
    exact fx2_z hf
  | succ k ih =>
    intro x1 x2 ls hf hl
    have hf := (gX7_bits_4.eq_1 ..).symm.trans hf
    refine lv_iload_n hx hb dX7_bits_4 rfl (lv_at hl 1 rfl) ?_
    refine lv_if_eq (tgt := 20) hx hb dX7_bits_5 rfl (fun hc => ?_) (fun hc => ?_)
    · have hf := ite_t hf hc
      refine lv_iload_n hx hb dX7_bits_20 rfl (lv_at hl 0 rfl) ?_
      exact s_iretR E hrt hlocks hf dX7_bits_21
    · have hf := ite_f hf hc
      obtain ⟨z1, ez9, hf⟩ := nm_x hf
      refine lv_iinc (v := z1) (lv' := [(1, .int z1), (2, .int x2)]) hx hb dX7_bits_8 hl (k := 0) rfl (by rw [ez9]; rfl) (Nat.le_of_ble_eq_true rfl) rfl (fun ls hl => ?_)
      refine lv_iload_n hx hb dX7_bits_11 rfl (lv_at hl 1 rfl) ?_
      refine lv_iload_n hx hb dX7_bits_12 rfl (lv_at hl 1 rfl) ?_
      refine lv_iconst (v := 1) hx hb dX7_bits_13 rfl ?_
      refine lv_isub hx hb dX7_bits_14 ?_
      refine lv_iand hx hb dX7_bits_15 ?_
      refine s_nm hf (fun z2 hf => ?_)
      refine lv_istore_n (lv' := [(2, .int z2), (1, .int z1)]) hx hb dX7_bits_16 rfl hl (Nat.le_of_ble_eq_true rfl) rfl (fun ls hl => ?_)
      refine lv_goto (tgt := 4) hx hb dX7_bits_17 rfl ?_
      exact ih _ _ _ hf (lv_sub hl [1, 0] rfl)
set_option maxRecDepth 100000 in
set_option maxHeartbeats 4000000 in
theorem mX7_bits (l : Launch) (K : Nat) (x0 : Int32) : sMS l yX7_bits (.code yX7_bits cX7_bits 3 (some .int) :: wsL_law) rmX7_bits [.int x0] (fX7_bits K x0) := by
  intro res hf
  refine Met.ofW (cc := cX7_bits) (maxL := 3) (ret := (some .int)) (by decide) rfl ?_
  intro p e s m args below meth c s₁ B hml hv
  obtain ⟨rfl, -⟩ := hv
  have hx := B.exec
  have hb := B.bytes
  have hrt := B.returns
  have hts : ∀ w ∈ wsL_law, w.before _ s = true := fun w hw => atoms_spec (ws := .code yX7_bits cX7_bits 3 (some .int) :: wsL_law) B.pre w (List.mem_cons_of_mem _ hw)
  have hlocks := B.notSynchronized
  have E : CallFix p m c cX7_bits 3 s ([.int x0] : List Value).toArray wsL_law RX7 := ⟨hx, hb, hml, findClass_of_methodNamed B.named, hts⟩
  have hl := lv_entry ([.int x0]) (n := 3) (Nat.le_of_ble_eq_true rfl)
  rw [lg_entry_eq]
  generalize (lg_sl ([.int x0]) ++ List.replicate (3 - (lg_sl ([.int x0])).length) Slot.unset).toArray = ls at hl ⊢
  have hl : lv_has ls 3 [(0, .int x0)] := hl
  have hf := (fX7_bits.eq_1 ..).symm.trans hf
  refine lv_iconst (v := 0) hx hb dX7_bits_0 rfl ?_
  refine lv_istore_n (lv' := [(1, .int 0), (0, .int x0)]) hx hb dX7_bits_1 rfl hl (Nat.le_of_ble_eq_true rfl) rfl (fun ls hl => ?_)
  refine lv_iload_n hx hb dX7_bits_2 rfl (lv_at hl 1 rfl) ?_
  refine lv_istore_n (lv' := [(2, .int x0), (1, .int 0), (0, .int x0)]) hx hb dX7_bits_3 rfl hl (Nat.le_of_ble_eq_true rfl) rfl (fun ls hl => ?_)
  exact lX7_bits_4 E hlocks hrt _ _ _ _ hf (lv_sub hl [1, 0] rfl)
abbrev rmX7_connected : Room := { frames := 3, cells := 0, slots := 0, locals := 64 }
set_option maxRecDepth 100000 in
set_option maxHeartbeats 4000000 in
theorem lX7_connected_26 {K : Nat} {x3 : Int32} {x4 : Int32} {k6 : Int32 → Int32 → Option Int32} {k16 : Int32 → Int32 → Option Int32} {res : Int32} (E : CallFix p m c cX7_connected 6 s args wsL_law RX7) (hlocks : meth.locks = false) (hrt : meth.sig.returnType = (some .int)) (hU : sU D G s) (hsh : sSh r) (hn : 172 ≤ n) {v : sV} (hP : va_P D vwCl (sWl G ad r v n x) s.heap) (ih6 : ∀ (x2 : Int32) (x3 : Int32) (ls : Array Slot), k6 x2 x3 = some res → lv_has ls 6 [(0, .ref (ad 157)), (2, .int x2), (3, .int x3)] → W p l e rmX7_connected s m args below meth c s.heap [] 0 0 (MQ below (vp_Si (fun q => q = res)) args s 0 0 (fun _ => False)) (F0 m 6 ls [])) (ih16 : ∀ (x2 : Int32) (x4 : Int32) (ls : Array Slot), k16 x2 x4 = some res → lv_has ls 6 [(0, .ref (ad 157)), (2, .int x2), (3, .int x3), (4, .int x4)] → W p l e rmX7_connected s m args below meth c s.heap [] 0 0 (MQ below (vp_Si (fun q => q = res)) args s 0 0 (fun _ => False)) (F0 m 16 ls [])) :
    ∀ (k : Nat) (x2 : Int32) (x5 : Int32) (ls : Array Slot), fx2 (gX7_connected_26 K k6 k16 x3 x4 v) k x2 x5 = some res → lv_has ls 6 [(0, .ref (ad 157)), (2, .int x2), (3, .int x3), (4, .int x4), (5, .int x5)] → W p l e rmX7_connected s m args below meth c s.heap [] 0 0 (MQ below (vp_Si (fun q => q = res)) args s 0 0 (fun _ => False)) (F0 m 26 ls []) := by
  have hx := E.1
  have hb := E.2.1
  have hts := E.2.2.2.2
  intro k
  induction k with
  | zero =>
    intro x2 x5 ls hf hl
    exact fx2_z hf
  | succ k ih =>
    intro x2 x5 ls hf hl
    have hf := (gX7_connected_26.eq_1 ..).symm.trans hf
    refine lv_iload hx hb dX7_connected_26 (lv_at hl 4 rfl) ?_
    refine lv_bipush (v := 16) hx hb dX7_connected_28 rfl ?_
    refine lv_icmp_ge (tgt := 90) hx hb dX7_connected_30 rfl (fun hc => ?_) (fun hc => ?_)
    · have hf := ite_t hf hc
      obtain ⟨z2, ez9, hf⟩ := nm_x hf
      refine lv_iinc (v := z2) (lv' := [(4, .int z2), (0, .ref (ad 157)), (2, .int x2), (3, .int x3), (5, .int x5)]) hx hb dX7_connected_90 hl (k := 3) rfl (by rw [ez9]; rfl) (Nat.le_of_ble_eq_true rfl) rfl (fun ls hl => ?_)
      refine lv_goto (tgt := 16) hx hb dX7_connected_93 rfl ?_
      exact ih16 _ _ _ hf (lv_sub hl [1, 2, 3, 0] rfl)
    · have hf := ite_f hf hc
      refine lv_iload_n hx hb dX7_connected_33 rfl (lv_at hl 2 rfl) ?_
      refine lv_iload hx hb dX7_connected_34 (lv_at hl 3 rfl) ?_
      refine lv_ishr hx hb dX7_connected_36 ?_
      refine lv_iconst (v := 1) hx hb dX7_connected_37 rfl ?_
      refine lv_iand hx hb dX7_connected_38 ?_
      refine lv_iconst (v := 1) hx hb dX7_connected_39 rfl ?_
      refine lv_icmp_ne (tgt := 90) hx hb dX7_connected_40 rfl (fun hc => ?_) (fun hc => ?_)
      · have hf := ite_f hf hc
        obtain ⟨z3, ez9, hf⟩ := nm_x hf
        refine lv_iinc (v := z3) (lv' := [(4, .int z3), (0, .ref (ad 157)), (2, .int x2), (3, .int x3), (5, .int x5)]) hx hb dX7_connected_90 hl (k := 3) rfl (by rw [ez9]; rfl) (Nat.le_of_ble_eq_true rfl) rfl (fun ls hl => ?_)
        refine lv_goto (tgt := 16) hx hb dX7_connected_93 rfl ?_
        exact ih16 _ _ _ hf (lv_sub hl [1, 2, 3, 0] rfl)
      · have hf := ite_t hf hc
        refine lv_iload_n hx hb dX7_connected_43 rfl (lv_at hl 1 rfl) ?_
        refine lv_aload_n hx hb dX7_connected_44 rfl (lv_at hl 0 rfl) ?_
        refine lv_iload hx hb dX7_connected_45 (lv_at hl 4 rfl) ?_
        refine sc_R hf (rV_R (As := [.int x5]) (rest := [.int x2]) E hU hP sc9 (slt hsh hn 157 rfl) rfl (mX7_isStuck l D G ad r _ n x hsh hn x5) (cwGV 1 okX7_isStuck wmX7_132 hts rfl rfl ⟨Nat.le_of_ble_eq_true rfl, Nat.le_of_ble_eq_true rfl⟩) rfl hl.1 (Nat.le_of_ble_eq_true rfl) dX7_connected_47 ⟨Nat.zero_le _, Nat.zero_le _⟩ rfl) (fun y4 hf => ?_)
        refine lv_if_eq (tgt := 81) hx hb dX7_connected_50 rfl (fun hc => ?_) (fun hc => ?_)
        · have hf := ite_t hf hc
          refine lv_iconst (v := 0) hx hb dX7_connected_81 rfl ?_
          refine lv_ior hx hb dX7_connected_82 ?_
          refine s_nm hf (fun z5 hf => ?_)
          refine lv_istore_n (lv' := [(2, .int z5), (0, .ref (ad 157)), (3, .int x3), (4, .int x4), (5, .int x5)]) hx hb dX7_connected_83 rfl hl (Nat.le_of_ble_eq_true rfl) rfl (fun ls hl => ?_)
          obtain ⟨z6, ez9, hf⟩ := nm_x hf
          refine lv_iinc (v := z6) (lv' := [(5, .int z6), (2, .int z5), (0, .ref (ad 157)), (3, .int x3), (4, .int x4)]) hx hb dX7_connected_84 hl (k := 4) rfl (by rw [ez9]; rfl) (Nat.le_of_ble_eq_true rfl) rfl (fun ls hl => ?_)
          refine lv_goto (tgt := 26) hx hb dX7_connected_87 rfl ?_
          exact ih _ _ _ hf (lv_sub hl [2, 1, 3, 4, 0] rfl)
        · have hf := ite_f hf hc
          refine lv_aload_n hx hb dX7_connected_53 rfl (lv_at hl 0 rfl) ?_
          refine lv_iload hx hb dX7_connected_54 (lv_at hl 3 rfl) ?_
          refine lv_iconst (v := 1) hx hb dX7_connected_56 rfl ?_
          refine sc_R hf (rV_R (As := [.int x4, .int 1]) (rest := [.int x2]) E hU hP sc9 (slt hsh hn 157 rfl) rfl (mX7_at l D G ad r _ n x hsh hn x4 1) (cwGV 2 okX7_at wmX7_105 hts rfl rfl ⟨Nat.le_of_ble_eq_true rfl, Nat.le_of_ble_eq_true rfl⟩) rfl hl.1 (Nat.le_of_ble_eq_true rfl) dX7_connected_57 ⟨Nat.zero_le _, Nat.zero_le _⟩ rfl) (fun y7 hf => ?_)
          refine lv_aload_n hx hb dX7_connected_60 rfl (lv_at hl 0 rfl) ?_
          refine lv_iload hx hb dX7_connected_61 (lv_at hl 4 rfl) ?_
          refine lv_iconst (v := 1) hx hb dX7_connected_63 rfl ?_
          refine sc_R hf (rV_R (As := [.int x5, .int 1]) (rest := [.int y7, .int x2]) E hU hP sc9 (slt hsh hn 157 rfl) rfl (mX7_at l D G ad r _ n x hsh hn x5 1) (cwGV 2 okX7_at wmX7_105 hts rfl rfl ⟨Nat.le_of_ble_eq_true rfl, Nat.le_of_ble_eq_true rfl⟩) rfl hl.1 (Nat.le_of_ble_eq_true rfl) dX7_connected_64 ⟨Nat.zero_le _, Nat.zero_le _⟩ rfl) (fun y8 hf => ?_)
          refine sc_R hf (rS_S (As := [.int y7, .int y8]) (rest := [.int x2]) E (mX7_apart l y7 y8) (cwGS 2 okX7_apart wmX7_143 hts rfl rfl ⟨Nat.le_of_ble_eq_true rfl, Nat.le_of_ble_eq_true rfl⟩) rfl hl.1 (Nat.le_of_ble_eq_true rfl) dX7_connected_67 ⟨Nat.zero_le _, Nat.zero_le _⟩ rfl) (fun y9 hf => ?_)
          refine lv_iconst (v := 1) hx hb dX7_connected_70 rfl ?_
          refine lv_icmp_ne (tgt := 81) hx hb dX7_connected_71 rfl (fun hc => ?_) (fun hc => ?_)
          · have hf := ite_f hf hc
            refine lv_iconst (v := 0) hx hb dX7_connected_81 rfl ?_
            refine lv_ior hx hb dX7_connected_82 ?_
            refine s_nm hf (fun z10 hf => ?_)
            refine lv_istore_n (lv' := [(2, .int z10), (0, .ref (ad 157)), (3, .int x3), (4, .int x4), (5, .int x5)]) hx hb dX7_connected_83 rfl hl (Nat.le_of_ble_eq_true rfl) rfl (fun ls hl => ?_)
            obtain ⟨z11, ez9, hf⟩ := nm_x hf
            refine lv_iinc (v := z11) (lv' := [(5, .int z11), (2, .int z10), (0, .ref (ad 157)), (3, .int x3), (4, .int x4)]) hx hb dX7_connected_84 hl (k := 4) rfl (by rw [ez9]; rfl) (Nat.le_of_ble_eq_true rfl) rfl (fun ls hl => ?_)
            refine lv_goto (tgt := 26) hx hb dX7_connected_87 rfl ?_
            exact ih _ _ _ hf (lv_sub hl [2, 1, 3, 4, 0] rfl)
          · have hf := ite_t hf hc
            refine lv_iconst (v := 1) hx hb dX7_connected_74 rfl ?_
            refine lv_iload hx hb dX7_connected_75 (lv_at hl 4 rfl) ?_
            refine lv_ishl hx hb dX7_connected_77 ?_
            refine lv_goto (tgt := 82) hx hb dX7_connected_78 rfl ?_
            refine lv_ior hx hb dX7_connected_82 ?_
            refine s_nm hf (fun z12 hf => ?_)
            refine lv_istore_n (lv' := [(2, .int z12), (0, .ref (ad 157)), (3, .int x3), (4, .int x4), (5, .int x5)]) hx hb dX7_connected_83 rfl hl (Nat.le_of_ble_eq_true rfl) rfl (fun ls hl => ?_)
            obtain ⟨z13, ez9, hf⟩ := nm_x hf
            refine lv_iinc (v := z13) (lv' := [(5, .int z13), (2, .int z12), (0, .ref (ad 157)), (3, .int x3), (4, .int x4)]) hx hb dX7_connected_84 hl (k := 4) rfl (by rw [ez9]; rfl) (Nat.le_of_ble_eq_true rfl) rfl (fun ls hl => ?_)
            refine lv_goto (tgt := 26) hx hb dX7_connected_87 rfl ?_
            exact ih _ _ _ hf (lv_sub hl [2, 1, 3, 4, 0] rfl)
set_option maxRecDepth 100000 in
set_option maxHeartbeats 4000000 in
theorem lX7_connected_16 {K : Nat} {x3 : Int32} {k6 : Int32 → Int32 → Option Int32} {res : Int32} (E : CallFix p m c cX7_connected 6 s args wsL_law RX7) (hlocks : meth.locks = false) (hrt : meth.sig.returnType = (some .int)) (hU : sU D G s) (hsh : sSh r) (hn : 172 ≤ n) {v : sV} (hP : va_P D vwCl (sWl G ad r v n x) s.heap) (ih6 : ∀ (x2 : Int32) (x3 : Int32) (ls : Array Slot), k6 x2 x3 = some res → lv_has ls 6 [(0, .ref (ad 157)), (2, .int x2), (3, .int x3)] → W p l e rmX7_connected s m args below meth c s.heap [] 0 0 (MQ below (vp_Si (fun q => q = res)) args s 0 0 (fun _ => False)) (F0 m 6 ls [])) :
    ∀ (k : Nat) (x2 : Int32) (x4 : Int32) (ls : Array Slot), fx2 (gX7_connected_16 K k6 x3 v) k x2 x4 = some res → lv_has ls 6 [(0, .ref (ad 157)), (2, .int x2), (3, .int x3), (4, .int x4)] → W p l e rmX7_connected s m args below meth c s.heap [] 0 0 (MQ below (vp_Si (fun q => q = res)) args s 0 0 (fun _ => False)) (F0 m 16 ls []) := by
  have hx := E.1
  have hb := E.2.1
  have hts := E.2.2.2.2
  intro k
  induction k with
  | zero =>
    intro x2 x4 ls hf hl
    exact fx2_z hf
  | succ k ih =>
    intro x2 x4 ls hf hl
    have hf := (gX7_connected_16.eq_1 ..).symm.trans hf
    refine lv_iload hx hb dX7_connected_16 (lv_at hl 3 rfl) ?_
    refine lv_bipush (v := 16) hx hb dX7_connected_18 rfl ?_
    refine lv_icmp_ge (tgt := 96) hx hb dX7_connected_20 rfl (fun hc => ?_) (fun hc => ?_)
    · have hf := ite_t hf hc
      refine lv_goto (tgt := 6) hx hb dX7_connected_96 rfl ?_
      exact ih6 _ _ _ hf (lv_sub hl [0, 1, 2] rfl)
    · have hf := ite_f hf hc
      refine lv_iconst (v := 0) hx hb dX7_connected_23 rfl ?_
      refine lv_istore (lv' := [(5, .int 0), (0, .ref (ad 157)), (2, .int x2), (3, .int x3), (4, .int x4)]) hx hb dX7_connected_24 hl (Nat.le_of_ble_eq_true rfl) rfl (fun ls hl => ?_)
      exact lX7_connected_26 E hlocks hrt hU hsh hn hP ih6 ih _ _ _ _ hf (lv_sub hl [1, 2, 3, 4, 0] rfl)
set_option maxRecDepth 100000 in
set_option maxHeartbeats 4000000 in
theorem lX7_connected_6 {K : Nat} {res : Int32} (E : CallFix p m c cX7_connected 6 s args wsL_law RX7) (hlocks : meth.locks = false) (hrt : meth.sig.returnType = (some .int)) (hU : sU D G s) (hsh : sSh r) (hn : 172 ≤ n) {v : sV} (hP : va_P D vwCl (sWl G ad r v n x) s.heap) :
    ∀ (k : Nat) (x2 : Int32) (x3 : Int32) (ls : Array Slot), fx2 (gX7_connected_6 K v) k x2 x3 = some res → lv_has ls 6 [(0, .ref (ad 157)), (2, .int x2), (3, .int x3)] → W p l e rmX7_connected s m args below meth c s.heap [] 0 0 (MQ below (vp_Si (fun q => q = res)) args s 0 0 (fun _ => False)) (F0 m 6 ls []) := by
  have hx := E.1
  have hb := E.2.1
  have hts := E.2.2.2.2
  intro k
  induction k with
  | zero =>
    intro x2 x3 ls hf hl
    exact fx2_z hf
  | succ k ih =>
    intro x2 x3 ls hf hl
    have hf := (gX7_connected_6.eq_1 ..).symm.trans hf
    refine lv_iload_n hx hb dX7_connected_6 rfl (lv_at hl 1 rfl) ?_
    refine lv_iload_n hx hb dX7_connected_7 rfl (lv_at hl 2 rfl) ?_
    refine lv_icmp_eq (tgt := 99) hx hb dX7_connected_8 rfl (fun hc => ?_) (fun hc => ?_)
    · have hf := ite_t hf hc
      refine lv_iload_n hx hb dX7_connected_99 rfl (lv_at hl 1 rfl) ?_
      exact s_iretR E hrt hlocks hf dX7_connected_100
    · have hf := ite_f hf hc
      refine lv_iload_n hx hb dX7_connected_11 rfl (lv_at hl 1 rfl) ?_
      refine lv_istore_n (lv' := [(3, .int x2), (0, .ref (ad 157)), (2, .int x2)]) hx hb dX7_connected_12 rfl hl (Nat.le_of_ble_eq_true rfl) rfl (fun ls hl => ?_)
      refine lv_iconst (v := 0) hx hb dX7_connected_13 rfl ?_
      refine lv_istore (lv' := [(4, .int 0), (3, .int x2), (0, .ref (ad 157)), (2, .int x2)]) hx hb dX7_connected_14 hl (Nat.le_of_ble_eq_true rfl) rfl (fun ls hl => ?_)
      exact lX7_connected_16 E hlocks hrt hU hsh hn hP ih _ _ _ _ hf (lv_sub hl [2, 3, 1, 0] rfl)
set_option maxRecDepth 100000 in
set_option maxHeartbeats 4000000 in
theorem mX7_connected (l : Launch) (K : Nat) (D : va_G) (G : Nat → ClassId) (ad : Nat → Nat) (r : sR) (v : sV) (n : Nat) (x : Int64 × UInt64) (hsh : sSh r) (hn : 172 ≤ n) (x1 : Int32) : sMR l yX7_connected (.code yX7_connected cX7_connected 6 (some .int) :: wsL_law) rmX7_connected D G ad r v n x [.ref (ad 157), .int x1] (fX7_connected K x1 v) := by
  intro res hf
  refine Met.ofW (cc := cX7_connected) (maxL := 6) (ret := (some .int)) (by decide) rfl ?_
  intro p e s m args below meth c s₁ B hml hv
  obtain ⟨rfl, hU, hP⟩ := hv
  have hx := B.exec
  have hb := B.bytes
  have hrt := B.returns
  have hts : ∀ w ∈ wsL_law, w.before _ s = true := fun w hw => atoms_spec (ws := .code yX7_connected cX7_connected 6 (some .int) :: wsL_law) B.pre w (List.mem_cons_of_mem _ hw)
  have hlocks := B.notSynchronized
  have E : CallFix p m c cX7_connected 6 s ([.ref (ad 157), .int x1] : List Value).toArray wsL_law RX7 := ⟨hx, hb, hml, findClass_of_methodNamed B.named, hts⟩
  have hl := lv_entry ([.ref (ad 157), .int x1]) (n := 6) (Nat.le_of_ble_eq_true rfl)
  rw [lg_entry_eq]
  generalize (lg_sl ([.ref (ad 157), .int x1]) ++ List.replicate (6 - (lg_sl ([.ref (ad 157), .int x1])).length) Slot.unset).toArray = ls at hl ⊢
  have hl : lv_has ls 6 [(0, .ref (ad 157)), (1, .int x1)] := hl
  have hf := (fX7_connected.eq_1 ..).symm.trans hf
  refine lv_iconst (v := 1) hx hb dX7_connected_0 rfl ?_
  refine lv_iload_n hx hb dX7_connected_1 rfl (lv_at hl 1 rfl) ?_
  refine lv_ishl hx hb dX7_connected_2 ?_
  refine s_nm hf (fun z1 hf => ?_)
  refine lv_istore_n (lv' := [(2, .int z1), (0, .ref (ad 157)), (1, .int x1)]) hx hb dX7_connected_3 rfl hl (Nat.le_of_ble_eq_true rfl) rfl (fun ls hl => ?_)
  refine lv_iconst (v := 0) hx hb dX7_connected_4 rfl ?_
  refine lv_istore_n (lv' := [(3, .int 0), (2, .int z1), (0, .ref (ad 157)), (1, .int x1)]) hx hb dX7_connected_5 rfl hl (Nat.le_of_ble_eq_true rfl) rfl (fun ls hl => ?_)
  exact lX7_connected_6 E hlocks hrt hU hsh hn hP _ _ _ _ hf (lv_sub hl [2, 1, 0] rfl)
abbrev rmX7_jamOf : Room := { frames := 4, cells := 0, slots := 0, locals := 89 }
set_option maxRecDepth 100000 in
set_option maxHeartbeats 4000000 in
theorem lX7_jamOf_7 {K : Nat} {x1 : Int32} {res : Int32} (E : CallFix p m c cX7_jamOf 6 s args wsL_law RX7) (hlocks : meth.locks = false) (hrt : meth.sig.returnType = (some .int)) (hU : sU D G s) (hsh : sSh r) (hn : 172 ≤ n) {v : sV} (hP : va_P D vwCl (sWl G ad r v n x) s.heap) :
    ∀ (k : Nat) (x2 : Int32) (x3 : Int32) (x4 : Int32) (ls : Array Slot), fx3 (gX7_jamOf_7 K x1 v) k x2 x3 x4 = some res → lv_has ls 6 [(0, .ref (ad 157)), (1, .int x1), (2, .int x2), (3, .int x3), (4, .int x4)] → W p l e rmX7_jamOf s m args below meth c s.heap [] 0 0 (MQ below (vp_Si (fun q => q = res)) args s 0 0 (fun _ => False)) (F0 m 7 ls []) := by
  have hx := E.1
  have hb := E.2.1
  have hts := E.2.2.2.2
  intro k
  induction k with
  | zero =>
    intro x2 x3 x4 ls hf hl
    exact fx3_z hf
  | succ k ih =>
    intro x2 x3 x4 ls hf hl
    have hf := (gX7_jamOf_7.eq_1 ..).symm.trans hf
    refine lv_iload hx hb dX7_jamOf_7 (lv_at hl 4 rfl) ?_
    refine lv_bipush (v := 16) hx hb dX7_jamOf_9 rfl ?_
    refine lv_icmp_ge (tgt := 75) hx hb dX7_jamOf_11 rfl (fun hc => ?_) (fun hc => ?_)
    · have hf := ite_t hf hc
      refine lv_iload_n hx hb dX7_jamOf_75 rfl (lv_at hl 1 rfl) ?_
      refine lv_if_ge (tgt := 83) hx hb dX7_jamOf_76 rfl (fun hc => ?_) (fun hc => ?_)
      · have hf := ite_t hf hc
        refine lv_iconst (v := 0) hx hb dX7_jamOf_83 rfl ?_
        exact s_iretR E hrt hlocks hf dX7_jamOf_84
      · have hf := ite_f hf hc
        refine lv_iload_n hx hb dX7_jamOf_79 rfl (lv_at hl 3 rfl) ?_
        refine lv_goto (tgt := 84) hx hb dX7_jamOf_80 rfl ?_
        exact s_iretR E hrt hlocks hf dX7_jamOf_84
    · have hf := ite_f hf hc
      refine lv_aload_n hx hb dX7_jamOf_14 rfl (lv_at hl 0 rfl) ?_
      refine lv_iload hx hb dX7_jamOf_15 (lv_at hl 4 rfl) ?_
      refine sc_R hf (rV_R (As := [.int x4]) (rest := []) E hU hP sc9 (slt hsh hn 157 rfl) rfl (mX7_isStuck l D G ad r _ n x hsh hn x4) (cwGV 1 okX7_isStuck wmX7_132 hts rfl rfl ⟨Nat.le_of_ble_eq_true rfl, Nat.le_of_ble_eq_true rfl⟩) rfl hl.1 (Nat.le_of_ble_eq_true rfl) dX7_jamOf_17 ⟨Nat.zero_le _, Nat.zero_le _⟩ rfl) (fun y1 hf => ?_)
      refine lv_if_eq (tgt := 69) hx hb dX7_jamOf_20 rfl (fun hc => ?_) (fun hc => ?_)
      · have hf := ite_t hf hc
        obtain ⟨z2, ez9, hf⟩ := nm_x hf
        refine lv_iinc (v := z2) (lv' := [(4, .int z2), (0, .ref (ad 157)), (1, .int x1), (2, .int x2), (3, .int x3)]) hx hb dX7_jamOf_69 hl (k := 4) rfl (by rw [ez9]; rfl) (Nat.le_of_ble_eq_true rfl) rfl (fun ls hl => ?_)
        refine lv_goto (tgt := 7) hx hb dX7_jamOf_72 rfl ?_
        exact ih _ _ _ _ hf (lv_sub hl [1, 2, 3, 4, 0] rfl)
      · have hf := ite_f hf hc
        refine lv_iload_n hx hb dX7_jamOf_23 rfl (lv_at hl 2 rfl) ?_
        refine lv_iload hx hb dX7_jamOf_24 (lv_at hl 4 rfl) ?_
        refine lv_ishr hx hb dX7_jamOf_26 ?_
        refine lv_iconst (v := 1) hx hb dX7_jamOf_27 rfl ?_
        refine lv_iand hx hb dX7_jamOf_28 ?_
        refine lv_iconst (v := 1) hx hb dX7_jamOf_29 rfl ?_
        refine lv_icmp_ne (tgt := 36) hx hb dX7_jamOf_30 rfl (fun hc => ?_) (fun hc => ?_)
        · have hf := ite_f hf hc
          refine lv_aload_n hx hb dX7_jamOf_36 rfl (lv_at hl 0 rfl) ?_
          refine lv_iload hx hb dX7_jamOf_37 (lv_at hl 4 rfl) ?_
          refine sc_R hf (rV_R (As := [.int x4]) (rest := []) E hU hP sc9 (slt hsh hn 157 rfl) rfl (mX7_connected l K D G ad r _ n x hsh hn x4) (cwGV 1 okX7_connected wmX7_174 hts rfl rfl ⟨Nat.le_of_ble_eq_true rfl, Nat.le_of_ble_eq_true rfl⟩) rfl hl.1 (Nat.le_of_ble_eq_true rfl) dX7_jamOf_39 ⟨Nat.zero_le _, Nat.zero_le _⟩ rfl) (fun y3 hf => ?_)
          refine lv_istore (lv' := [(5, .int y3), (0, .ref (ad 157)), (1, .int x1), (2, .int x2), (3, .int x3), (4, .int x4)]) hx hb dX7_jamOf_42 hl (Nat.le_of_ble_eq_true rfl) rfl (fun ls hl => ?_)
          refine lv_iload_n hx hb dX7_jamOf_44 rfl (lv_at hl 3 rfl) ?_
          refine lv_iload hx hb dX7_jamOf_45 (lv_at hl 0 rfl) ?_
          refine lv_ior hx hb dX7_jamOf_47 ?_
          refine s_nm hf (fun z4 hf => ?_)
          refine lv_istore_n (lv' := [(2, .int z4), (5, .int y3), (0, .ref (ad 157)), (1, .int x1), (3, .int x3), (4, .int x4)]) hx hb dX7_jamOf_48 rfl hl (Nat.le_of_ble_eq_true rfl) rfl (fun ls hl => ?_)
          refine lv_iload hx hb dX7_jamOf_49 (lv_at hl 1 rfl) ?_
          refine sc_R hf (rS_S (As := [.int y3]) (rest := []) E (mX7_bits l K y3) (cwGS 1 okX7_bits wmX7_177 hts rfl rfl ⟨Nat.le_of_ble_eq_true rfl, Nat.le_of_ble_eq_true rfl⟩) rfl hl.1 (Nat.le_of_ble_eq_true rfl) dX7_jamOf_51 ⟨Nat.zero_le _, Nat.zero_le _⟩ rfl) (fun y5 hf => ?_)
          refine lv_iconst (v := 1) hx hb dX7_jamOf_54 rfl ?_
          refine lv_icmp_le (tgt := 69) hx hb dX7_jamOf_55 rfl (fun hc => ?_) (fun hc => ?_)
          · have hf := ite_t hf hc
            obtain ⟨z6, ez9, hf⟩ := nm_x hf
            refine lv_iinc (v := z6) (lv' := [(4, .int z6), (2, .int z4), (5, .int y3), (0, .ref (ad 157)), (1, .int x1), (3, .int x3)]) hx hb dX7_jamOf_69 hl (k := 5) rfl (by rw [ez9]; rfl) (Nat.le_of_ble_eq_true rfl) rfl (fun ls hl => ?_)
            refine lv_goto (tgt := 7) hx hb dX7_jamOf_72 rfl ?_
            exact ih _ _ _ _ hf (lv_sub hl [3, 4, 1, 5, 0] rfl)
          · have hf := ite_f hf hc
            refine lv_iload_n hx hb dX7_jamOf_58 rfl (lv_at hl 4 rfl) ?_
            refine lv_iload_n hx hb dX7_jamOf_59 rfl (lv_at hl 3 rfl) ?_
            refine lv_icmp_ne (tgt := 66) hx hb dX7_jamOf_60 rfl (fun hc => ?_) (fun hc => ?_)
            · have hf := ite_f hf hc
              obtain ⟨z7, ez9, hf⟩ := nm_x hf
              refine lv_iinc (v := z7) (lv' := [(3, .int z7), (2, .int z4), (5, .int y3), (0, .ref (ad 157)), (1, .int x1), (4, .int x4)]) hx hb dX7_jamOf_66 hl (k := 4) rfl (by rw [ez9]; rfl) (Nat.le_of_ble_eq_true rfl) rfl (fun ls hl => ?_)
              obtain ⟨z8, ez9, hf⟩ := nm_x hf
              refine lv_iinc (v := z8) (lv' := [(4, .int z8), (3, .int z7), (2, .int z4), (5, .int y3), (0, .ref (ad 157)), (1, .int x1)]) hx hb dX7_jamOf_69 hl (k := 5) rfl (by rw [ez9]; rfl) (Nat.le_of_ble_eq_true rfl) rfl (fun ls hl => ?_)
              refine lv_goto (tgt := 7) hx hb dX7_jamOf_72 rfl ?_
              exact ih _ _ _ _ hf (lv_sub hl [4, 5, 2, 1, 0] rfl)
            · have hf := ite_t hf hc
              refine lv_iload hx hb dX7_jamOf_63 (lv_at hl 1 rfl) ?_
              exact s_iretR E hrt hlocks hf dX7_jamOf_65
        · have hf := ite_t hf hc
          refine lv_goto (tgt := 69) hx hb dX7_jamOf_33 rfl ?_
          obtain ⟨z9, ez9, hf⟩ := nm_x hf
          refine lv_iinc (v := z9) (lv' := [(4, .int z9), (0, .ref (ad 157)), (1, .int x1), (2, .int x2), (3, .int x3)]) hx hb dX7_jamOf_69 hl (k := 4) rfl (by rw [ez9]; rfl) (Nat.le_of_ble_eq_true rfl) rfl (fun ls hl => ?_)
          refine lv_goto (tgt := 7) hx hb dX7_jamOf_72 rfl ?_
          exact ih _ _ _ _ hf (lv_sub hl [1, 2, 3, 4, 0] rfl)
set_option maxRecDepth 100000 in
set_option maxHeartbeats 4000000 in
theorem mX7_jamOf (l : Launch) (K : Nat) (D : va_G) (G : Nat → ClassId) (ad : Nat → Nat) (r : sR) (v : sV) (n : Nat) (x : Int64 × UInt64) (hsh : sSh r) (hn : 172 ≤ n) (x1 : Int32) : sMR l yX7_jamOf (.code yX7_jamOf cX7_jamOf 6 (some .int) :: wsL_law) rmX7_jamOf D G ad r v n x [.ref (ad 157), .int x1] (fX7_jamOf K x1 v) := by
  intro res hf
  refine Met.ofW (cc := cX7_jamOf) (maxL := 6) (ret := (some .int)) (by decide) rfl ?_
  intro p e s m args below meth c s₁ B hml hv
  obtain ⟨rfl, hU, hP⟩ := hv
  have hx := B.exec
  have hb := B.bytes
  have hrt := B.returns
  have hts : ∀ w ∈ wsL_law, w.before _ s = true := fun w hw => atoms_spec (ws := .code yX7_jamOf cX7_jamOf 6 (some .int) :: wsL_law) B.pre w (List.mem_cons_of_mem _ hw)
  have hlocks := B.notSynchronized
  have E : CallFix p m c cX7_jamOf 6 s ([.ref (ad 157), .int x1] : List Value).toArray wsL_law RX7 := ⟨hx, hb, hml, findClass_of_methodNamed B.named, hts⟩
  have hl := lv_entry ([.ref (ad 157), .int x1]) (n := 6) (Nat.le_of_ble_eq_true rfl)
  rw [lg_entry_eq]
  generalize (lg_sl ([.ref (ad 157), .int x1]) ++ List.replicate (6 - (lg_sl ([.ref (ad 157), .int x1])).length) Slot.unset).toArray = ls at hl ⊢
  have hl : lv_has ls 6 [(0, .ref (ad 157)), (1, .int x1)] := hl
  have hf := (fX7_jamOf.eq_1 ..).symm.trans hf
  refine lv_iconst (v := 0) hx hb dX7_jamOf_0 rfl ?_
  refine lv_istore_n (lv' := [(2, .int 0), (0, .ref (ad 157)), (1, .int x1)]) hx hb dX7_jamOf_1 rfl hl (Nat.le_of_ble_eq_true rfl) rfl (fun ls hl => ?_)
  refine lv_iconst (v := 0) hx hb dX7_jamOf_2 rfl ?_
  refine lv_istore_n (lv' := [(3, .int 0), (2, .int 0), (0, .ref (ad 157)), (1, .int x1)]) hx hb dX7_jamOf_3 rfl hl (Nat.le_of_ble_eq_true rfl) rfl (fun ls hl => ?_)
  refine lv_iconst (v := 0) hx hb dX7_jamOf_4 rfl ?_
  refine lv_istore (lv' := [(4, .int 0), (3, .int 0), (2, .int 0), (0, .ref (ad 157)), (1, .int x1)]) hx hb dX7_jamOf_5 hl (Nat.le_of_ble_eq_true rfl) rfl (fun ls hl => ?_)
  exact lX7_jamOf_7 E hlocks hrt hU hsh hn hP _ _ _ _ _ hf (lv_sub hl [3, 4, 2, 1, 0] rfl)
end
